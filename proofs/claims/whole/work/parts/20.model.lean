def f_X6_thrown (M : cl_M) (t0 : Nat) : Option (Int32) := some (M t0 4)
set_option maxHeartbeats 4000000 in
set_option maxRecDepth 100000 in
theorem k_X6_thrown {p : Program} {l : Launch} {e : Env} {s : State} {m : MethodId} {args : Array Value} {below : List Frame} {meth : Method} {c : Code} {dd : cl_D} {b : Nat} (C : cl_C p l s m args meth c cX6_thrown RX6 1 (some .int) dd b) : ∀ (M : cl_M) (t0 : Nat) (r : Int32), f_X6_thrown M t0 = some r → ∀ (H : Heap) (locs : List Loc) (ls : Array Slot), cl_sh dd t0 = 6 → cl_H dd b M s H locs → lv_has ls 1 [(0, .ref (b + t0))] → W p l e { frames := 0, cells := 0, slots := 0, locals := 0 } s m args below meth c H locs 0 0 (cl_Zi below args s dd b r M) (F0 m 0 ls []) := by
  have hx := C.1
  have hb := C.2.1
  have hlt := C.2.2.2.2.2.2.2.2.2.2
  have hRr := C.2.2.2.2.2.2.2.2.2.1
  intro M t0 r hf H locs ls ht0 hw hl
  unfold f_X6_thrown at hf
  refine lv_aload_n hx hb dX6_thrown_0 rfl (lv_at hl 0 rfl) ?_
  refine fg_X6_60 C hw ht0 dX6_thrown_1 ?_
  obtain rfl := Option.some.inj hf
  exact cr_reti C hw dX6_thrown_4
set_option maxRecDepth 100000 in
theorem c_X6_thrown {l : Launch} {dd : cl_D} {b : Nat} (hlt : l.stackTraces = false) {M : cl_M} {t0 : Nat}  {r : Int32} (ht0 : cl_sh dd t0 = 6) (h : f_X6_thrown M t0 = some r) : cl_Mi l dd b yX6_thrown cX6_thrown 1 (some .int) 0 0 [.ref (b + t0)] M r M :=
  cl_of hlt (by decide) (Nat.le_of_ble_eq_true rfl) (fun p e s m below meth c ls C hw hl => k_X6_thrown C M t0 r h _ _ _ ht0 hw (lv_sub hl [0] rfl))
theorem cy_X6_thrown : cl_cy yX6_thrown cX6_thrown 1 (some .int) 0 := ⟨in_ClothesLineModel, cd_X6_thrown, by decide +kernel, by decide +kernel, by decide +kernel⟩
theorem vy_X6_thrown : cl_vy yX6_thrown := ⟨im_X6_thrown, se_X6_thrown⟩
def f_X6_inRange_15 (M : cl_M) (z0 : Int32) : Option (Int32) := if cl_bz z0 = true then some z0 else none
set_option maxHeartbeats 4000000 in
set_option maxRecDepth 100000 in
theorem k_X6_inRange_15 {p : Program} {l : Launch} {e : Env} {s : State} {m : MethodId} {args : Array Value} {below : List Frame} {meth : Method} {c : Code} {dd : cl_D} {b : Nat} (C : cl_C p l s m args meth c cX6_inRange RX6 3 (some .boolean) dd b) : ∀ (M : cl_M) (z0 : Int32) (r : Int32), f_X6_inRange_15 M z0 = some r → ∀ (H : Heap) (locs : List Loc) (ls : Array Slot), cl_H dd b M s H locs → lv_has ls 3 [] → W p l e { frames := 0, cells := 0, slots := 0, locals := 0 } s m args below meth c H locs 0 0 (cl_Zi below args s dd b r M) (F0 m 15 ls [.int z0]) := by
  have hx := C.1
  have hb := C.2.1
  have hlt := C.2.2.2.2.2.2.2.2.2.2
  have hRr := C.2.2.2.2.2.2.2.2.2.1
  intro M z0 r hf H locs ls hw hl
  unfold f_X6_inRange_15 at hf
  obtain ⟨q2, hf⟩ := cl_grd hf
  obtain rfl := Option.some.inj hf
  exact cr_retz C hw q2 dX6_inRange_15
def f_X6_inRange (M : cl_M) (a0 : Int32) (a1 : Int32) (a2 : Int32) : Option (Int32) := if a0 < a1 then f_X6_inRange_15 M 0 else if a2 < a0 then f_X6_inRange_15 M 0 else f_X6_inRange_15 M 1
set_option maxHeartbeats 4000000 in
set_option maxRecDepth 100000 in
theorem k_X6_inRange {p : Program} {l : Launch} {e : Env} {s : State} {m : MethodId} {args : Array Value} {below : List Frame} {meth : Method} {c : Code} {dd : cl_D} {b : Nat} (C : cl_C p l s m args meth c cX6_inRange RX6 3 (some .boolean) dd b) : ∀ (M : cl_M) (a0 : Int32) (a1 : Int32) (a2 : Int32) (r : Int32), f_X6_inRange M a0 a1 a2 = some r → ∀ (H : Heap) (locs : List Loc) (ls : Array Slot), cl_H dd b M s H locs → lv_has ls 3 [(0, .int a0), (1, .int a1), (2, .int a2)] → W p l e { frames := 0, cells := 0, slots := 0, locals := 0 } s m args below meth c H locs 0 0 (cl_Zi below args s dd b r M) (F0 m 0 ls []) := by
  have hx := C.1
  have hb := C.2.1
  have hlt := C.2.2.2.2.2.2.2.2.2.2
  have hRr := C.2.2.2.2.2.2.2.2.2.1
  intro M a0 a1 a2 r hf H locs ls hw hl
  unfold f_X6_inRange at hf
  refine lv_iload_n hx hb dX6_inRange_0 rfl (lv_at hl 0 rfl) ?_
  refine lv_iload_n hx hb dX6_inRange_1 rfl (lv_at hl 1 rfl) ?_
  refine lv_icmp_lt (tgt := 14) hx hb dX6_inRange_2 (by decide) (fun c1 => ?_) (fun c1 => ?_)
  · have hf := cl_yes c1 hf
    refine lv_iconst (v := 0) hx hb dX6_inRange_14 (by decide) ?_
    exact k_X6_inRange_15 C M 0 _ hf _ _ _ hw (lv_sub hl [] rfl)
  · have hf := cl_no c1 hf
    refine lv_iload_n hx hb dX6_inRange_5 rfl (lv_at hl 0 rfl) ?_
    refine lv_iload_n hx hb dX6_inRange_6 rfl (lv_at hl 2 rfl) ?_
    refine lv_icmp_gt (tgt := 14) hx hb dX6_inRange_7 (by decide) (fun c3 => ?_) (fun c3 => ?_)
    · have hf := cl_yes c3 hf
      refine lv_iconst (v := 0) hx hb dX6_inRange_14 (by decide) ?_
      exact k_X6_inRange_15 C M 0 _ hf _ _ _ hw (lv_sub hl [] rfl)
    · have hf := cl_no c3 hf
      refine lv_iconst (v := 1) hx hb dX6_inRange_10 (by decide) ?_
      refine lv_goto (tgt := 15) hx hb dX6_inRange_11 (by decide) ?_
      exact k_X6_inRange_15 C M 1 _ hf _ _ _ hw (lv_sub hl [] rfl)
set_option maxRecDepth 100000 in
theorem c_X6_inRange {l : Launch} {dd : cl_D} {b : Nat} (hlt : l.stackTraces = false) {M : cl_M} {a0 : Int32} {a1 : Int32} {a2 : Int32}  {r : Int32} (h : f_X6_inRange M a0 a1 a2 = some r) : cl_Mi l dd b yX6_inRange cX6_inRange 3 (some .boolean) 0 0 [.int a0, .int a1, .int a2] M r M :=
  cl_of hlt (by decide) (Nat.le_of_ble_eq_true rfl) (fun p e s m below meth c ls C hw hl => k_X6_inRange C M a0 a1 a2 r h _ _ _ hw (lv_sub hl [0, 1, 2] rfl))
theorem cy_X6_inRange : cl_cy yX6_inRange cX6_inRange 3 (some .boolean) 3 := ⟨in_ClothesLineModel, cd_X6_inRange, by decide +kernel, by decide +kernel, by decide +kernel⟩
def f_X6_fails_18 (M : cl_M) (z0 : Int32) : Option (Int32 × cl_M) := if cl_bz z0 = true then some (z0, M) else none
set_option maxHeartbeats 4000000 in
set_option maxRecDepth 100000 in
theorem k_X6_fails_18 {p : Program} {l : Launch} {e : Env} {s : State} {m : MethodId} {args : Array Value} {below : List Frame} {meth : Method} {c : Code} {dd : cl_D} {b : Nat} (C : cl_C p l s m args meth c cX6_fails RX6 3 (some .boolean) dd b) : ∀ (M : cl_M) (z0 : Int32) (r : Int32) (M' : cl_M), f_X6_fails_18 M z0 = some (r, M') → ∀ (H : Heap) (locs : List Loc) (ls : Array Slot), cl_H dd b M s H locs → lv_has ls 3 [] → W p l e { frames := 0, cells := 0, slots := 0, locals := 0 } s m args below meth c H locs 0 0 (cl_Zi below args s dd b r M') (F0 m 18 ls [.int z0]) := by
  have hx := C.1
  have hb := C.2.1
  have hlt := C.2.2.2.2.2.2.2.2.2.2
  have hRr := C.2.2.2.2.2.2.2.2.2.1
  intro M z0 r M' hf H locs ls hw hl
  unfold f_X6_fails_18 at hf
  obtain ⟨q3, hf⟩ := cl_grd hf
  obtain ⟨rfl, rfl⟩ := cl_pair hf
  exact cr_retz C hw q3 dX6_fails_18
def f_X6_fails_9 (M : cl_M) (a1 : Int32) : Option (Int32 × cl_M) := if a1 = 0 then f_X6_fails_18 M 1 else f_X6_fails_18 M 0
set_option maxHeartbeats 4000000 in
set_option maxRecDepth 100000 in
theorem k_X6_fails_9 {p : Program} {l : Launch} {e : Env} {s : State} {m : MethodId} {args : Array Value} {below : List Frame} {meth : Method} {c : Code} {dd : cl_D} {b : Nat} (C : cl_C p l s m args meth c cX6_fails RX6 3 (some .boolean) dd b) : ∀ (M : cl_M) (a1 : Int32) (r : Int32) (M' : cl_M), f_X6_fails_9 M a1 = some (r, M') → ∀ (H : Heap) (locs : List Loc) (ls : Array Slot), cl_H dd b M s H locs → lv_has ls 3 [(1, .int a1)] → W p l e { frames := 0, cells := 0, slots := 0, locals := 0 } s m args below meth c H locs 0 0 (cl_Zi below args s dd b r M') (F0 m 9 ls []) := by
  have hx := C.1
  have hb := C.2.1
  have hlt := C.2.2.2.2.2.2.2.2.2.2
  have hRr := C.2.2.2.2.2.2.2.2.2.1
  intro M a1 r M' hf H locs ls hw hl
  unfold f_X6_fails_9 at hf
  refine lv_iload_n hx hb dX6_fails_9 rfl (lv_at hl 0 rfl) ?_
  refine lv_if_ne (tgt := 17) hx hb dX6_fails_10 (by decide) (fun c2 => ?_) (fun c2 => ?_)
  · have hf := cl_no c2 hf
    refine lv_iconst (v := 0) hx hb dX6_fails_17 (by decide) ?_
    exact k_X6_fails_18 C M 0 _ _ hf _ _ _ hw (lv_sub hl [] rfl)
  · have hf := cl_yes c2 hf
    refine lv_iconst (v := 1) hx hb dX6_fails_13 (by decide) ?_
    refine lv_goto (tgt := 18) hx hb dX6_fails_14 (by decide) ?_
    exact k_X6_fails_18 C M 1 _ _ hf _ _ _ hw (lv_sub hl [] rfl)
def f_X6_fails (M : cl_M) (t0 : Nat) (a1 : Int32) (a2 : Int32) : Option (Int32 × cl_M) := if a1 = 0 then cl_let (cl_ms M t0 4 a2) (fun M4 => f_X6_fails_9 M4 a1) else f_X6_fails_9 M a1
set_option maxHeartbeats 4000000 in
set_option maxRecDepth 100000 in
theorem k_X6_fails {p : Program} {l : Launch} {e : Env} {s : State} {m : MethodId} {args : Array Value} {below : List Frame} {meth : Method} {c : Code} {dd : cl_D} {b : Nat} (C : cl_C p l s m args meth c cX6_fails RX6 3 (some .boolean) dd b) : ∀ (M : cl_M) (t0 : Nat) (a1 : Int32) (a2 : Int32) (r : Int32) (M' : cl_M), f_X6_fails M t0 a1 a2 = some (r, M') → ∀ (H : Heap) (locs : List Loc) (ls : Array Slot), cl_sh dd t0 = 6 → cl_H dd b M s H locs → lv_has ls 3 [(0, .ref (b + t0)), (1, .int a1), (2, .int a2)] → W p l e { frames := 0, cells := 0, slots := 0, locals := 0 } s m args below meth c H locs 0 0 (cl_Zi below args s dd b r M') (F0 m 0 ls []) := by
  have hx := C.1
  have hb := C.2.1
  have hlt := C.2.2.2.2.2.2.2.2.2.2
  have hRr := C.2.2.2.2.2.2.2.2.2.1
  intro M t0 a1 a2 r M' hf H locs ls ht0 hw hl
  unfold f_X6_fails at hf
  refine lv_iload_n hx hb dX6_fails_0 rfl (lv_at hl 1 rfl) ?_
  refine lv_if_ne (tgt := 9) hx hb dX6_fails_1 (by decide) (fun c1 => ?_) (fun c1 => ?_)
  · have hf := cl_no c1 hf
    exact k_X6_fails_9 C M a1 _ _ hf _ _ _ hw (lv_sub hl [1] rfl)
  · have hf := cl_yes c1 hf
    refine lv_aload_n hx hb dX6_fails_4 rfl (lv_at hl 0 rfl) ?_
    refine lv_iload_n hx hb dX6_fails_5 rfl (lv_at hl 2 rfl) ?_
    obtain ⟨M4, eM4, hf⟩ := cl_let_e hf
    refine fp_X6_60 C hw ht0 eM4 dX6_fails_6 (fun H locs hw => ?_)
    exact k_X6_fails_9 C M4 a1 _ _ hf _ _ _ hw (lv_sub hl [1] rfl)
set_option maxRecDepth 100000 in
theorem c_X6_fails {l : Launch} {dd : cl_D} {b : Nat} (hlt : l.stackTraces = false) {M : cl_M} {t0 : Nat} {a1 : Int32} {a2 : Int32}  {r : Int32} {M' : cl_M} (ht0 : cl_sh dd t0 = 6) (h : f_X6_fails M t0 a1 a2 = some (r, M')) : cl_Mi l dd b yX6_fails cX6_fails 3 (some .boolean) 0 0 [.ref (b + t0), .int a1, .int a2] M r M' :=
  cl_of hlt (by decide) (Nat.le_of_ble_eq_true rfl) (fun p e s m below meth c ls C hw hl => k_X6_fails C M t0 a1 a2 r M' h _ _ _ ht0 hw (lv_sub hl [0, 1, 2] rfl))
theorem cy_X6_fails : cl_cy yX6_fails cX6_fails 3 (some .boolean) 2 := ⟨in_ClothesLineModel, cd_X6_fails, by decide +kernel, by decide +kernel, by decide +kernel⟩
theorem vy_X6_fails : cl_vy yX6_fails := ⟨im_X6_fails, se_X6_fails⟩
def f_X6_flag_9 (M : cl_M) (z0 : Int32) : Option (Int32) := some z0
set_option maxHeartbeats 4000000 in
set_option maxRecDepth 100000 in
theorem k_X6_flag_9 {p : Program} {l : Launch} {e : Env} {s : State} {m : MethodId} {args : Array Value} {below : List Frame} {meth : Method} {c : Code} {dd : cl_D} {b : Nat} (C : cl_C p l s m args meth c cX6_flag RX6 1 (some .int) dd b) : ∀ (M : cl_M) (z0 : Int32) (r : Int32), f_X6_flag_9 M z0 = some r → ∀ (H : Heap) (locs : List Loc) (ls : Array Slot), cl_H dd b M s H locs → lv_has ls 1 [] → W p l e { frames := 0, cells := 0, slots := 0, locals := 0 } s m args below meth c H locs 0 0 (cl_Zi below args s dd b r M) (F0 m 9 ls [.int z0]) := by
  have hx := C.1
  have hb := C.2.1
  have hlt := C.2.2.2.2.2.2.2.2.2.2
  have hRr := C.2.2.2.2.2.2.2.2.2.1
  intro M z0 r hf H locs ls hw hl
  unfold f_X6_flag_9 at hf
  obtain rfl := Option.some.inj hf
  exact cr_reti C hw dX6_flag_9
def f_X6_flag (M : cl_M) (a0 : Int32) : Option (Int32) := if a0 = 0 then f_X6_flag_9 M 0 else f_X6_flag_9 M 1
set_option maxHeartbeats 4000000 in
set_option maxRecDepth 100000 in
theorem k_X6_flag {p : Program} {l : Launch} {e : Env} {s : State} {m : MethodId} {args : Array Value} {below : List Frame} {meth : Method} {c : Code} {dd : cl_D} {b : Nat} (C : cl_C p l s m args meth c cX6_flag RX6 1 (some .int) dd b) : ∀ (M : cl_M) (a0 : Int32) (r : Int32), f_X6_flag M a0 = some r → ∀ (H : Heap) (locs : List Loc) (ls : Array Slot), cl_H dd b M s H locs → lv_has ls 1 [(0, .int a0)] → W p l e { frames := 0, cells := 0, slots := 0, locals := 0 } s m args below meth c H locs 0 0 (cl_Zi below args s dd b r M) (F0 m 0 ls []) := by
  have hx := C.1
  have hb := C.2.1
  have hlt := C.2.2.2.2.2.2.2.2.2.2
  have hRr := C.2.2.2.2.2.2.2.2.2.1
  intro M a0 r hf H locs ls hw hl
  unfold f_X6_flag at hf
  refine lv_iload_n hx hb dX6_flag_0 rfl (lv_at hl 0 rfl) ?_
  refine lv_if_eq (tgt := 8) hx hb dX6_flag_1 (by decide) (fun c1 => ?_) (fun c1 => ?_)
  · have hf := cl_yes c1 hf
    refine lv_iconst (v := 0) hx hb dX6_flag_8 (by decide) ?_
    exact k_X6_flag_9 C M 0 _ hf _ _ _ hw (lv_sub hl [] rfl)
  · have hf := cl_no c1 hf
    refine lv_iconst (v := 1) hx hb dX6_flag_4 (by decide) ?_
    refine lv_goto (tgt := 9) hx hb dX6_flag_5 (by decide) ?_
    exact k_X6_flag_9 C M 1 _ hf _ _ _ hw (lv_sub hl [] rfl)
set_option maxRecDepth 100000 in
theorem c_X6_flag {l : Launch} {dd : cl_D} {b : Nat} (hlt : l.stackTraces = false) {M : cl_M} {a0 : Int32}  {r : Int32} (h : f_X6_flag M a0 = some r) : cl_Mi l dd b yX6_flag cX6_flag 1 (some .int) 0 0 [.int a0] M r M :=
  cl_of hlt (by decide) (Nat.le_of_ble_eq_true rfl) (fun p e s m below meth c ls C hw hl => k_X6_flag C M a0 r h _ _ _ hw (lv_sub hl [0] rfl))
theorem cy_X6_flag : cl_cy yX6_flag cX6_flag 1 (some .int) 1 := ⟨in_ClothesLineModel, cd_X6_flag, by decide +kernel, by decide +kernel, by decide +kernel⟩
def f_X6_windAt (M : cl_M) (t0 : Nat) (a1 : Int32) : Option (Int32) := if (M (t0 + 2) 4) = 0 then none else if cl_inb (11 + ((a1 / 60) - (a1 / 60) / (M (t0 + 2) 4) * (M (t0 + 2) 4))) 149 = true then some (M (t0 + 2) ((11 + ((a1 / 60) - (a1 / 60) / (M (t0 + 2) 4) * (M (t0 + 2) 4))).toNatClampNeg)) else none
set_option maxHeartbeats 4000000 in
set_option maxRecDepth 100000 in
theorem k_X6_windAt {p : Program} {l : Launch} {e : Env} {s : State} {m : MethodId} {args : Array Value} {below : List Frame} {meth : Method} {c : Code} {dd : cl_D} {b : Nat} (C : cl_C p l s m args meth c cX6_windAt RX6 2 (some .int) dd b) : ∀ (M : cl_M) (t0 : Nat) (a1 : Int32) (r : Int32), f_X6_windAt M t0 a1 = some r → ∀ (H : Heap) (locs : List Loc) (ls : Array Slot), cl_sh dd t0 = 6 → cl_H dd b M s H locs → lv_has ls 2 [(0, .ref (b + t0)), (1, .int a1)] → W p l e { frames := 0, cells := 0, slots := 0, locals := 0 } s m args below meth c H locs 0 0 (cl_Zi below args s dd b r M) (F0 m 0 ls []) := by
  have hx := C.1
  have hb := C.2.1
  have hlt := C.2.2.2.2.2.2.2.2.2.2
  have hRr := C.2.2.2.2.2.2.2.2.2.1
  intro M t0 a1 r hf H locs ls ht0 hw hl
  unfold f_X6_windAt at hf
  refine lv_aload_n hx hb dX6_windAt_0 rfl (lv_at hl 0 rfl) ?_
  refine fg_X6_17 C hw ht0 dX6_windAt_1 ?_
  refine lv_bipush (v := 11) hx hb dX6_windAt_4 (by decide) ?_
  refine lv_iload_n hx hb dX6_windAt_6 rfl (lv_at hl 1 rfl) ?_
  refine lv_bipush (v := 60) hx hb dX6_windAt_7 (by decide) ?_
  refine lv_idiv hx hb dX6_windAt_9 (by decide) ?_
  refine lv_aload_n hx hb dX6_windAt_10 rfl (lv_at hl 0 rfl) ?_
  refine fg_X6_17 C hw ht0 dX6_windAt_11 ?_
  refine lv_iconst (v := 4) hx hb dX6_windAt_14 (by decide) ?_
  refine cr_iald C hw (sh_6_5 ht0).1 (sh_6_5 ht0).2 (by decide) (k := 4) rfl dX6_windAt_15 ?_
  obtain ⟨n1, hf⟩ := cl_grn hf
  refine lv_irem hx hb dX6_windAt_16 n1 ?_
  refine lv_iadd hx hb dX6_windAt_17 ?_
  obtain ⟨q2, hf⟩ := cl_grd hf
  refine cr_iald C hw (sh_6_5 ht0).1 (sh_6_5 ht0).2 q2 (k := (11 + ((a1 / 60) - (a1 / 60) / (M (t0 + 2) 4) * (M (t0 + 2) 4))).toNatClampNeg) rfl dX6_windAt_18 ?_
  obtain rfl := Option.some.inj hf
  exact cr_reti C hw dX6_windAt_19
set_option maxRecDepth 100000 in
theorem c_X6_windAt {l : Launch} {dd : cl_D} {b : Nat} (hlt : l.stackTraces = false) {M : cl_M} {t0 : Nat} {a1 : Int32}  {r : Int32} (ht0 : cl_sh dd t0 = 6) (h : f_X6_windAt M t0 a1 = some r) : cl_Mi l dd b yX6_windAt cX6_windAt 2 (some .int) 0 0 [.ref (b + t0), .int a1] M r M :=
  cl_of hlt (by decide) (Nat.le_of_ble_eq_true rfl) (fun p e s m below meth c ls C hw hl => k_X6_windAt C M t0 a1 r h _ _ _ ht0 hw (lv_sub hl [0, 1] rfl))
theorem cy_X6_windAt : cl_cy yX6_windAt cX6_windAt 2 (some .int) 1 := ⟨in_ClothesLineModel, cd_X6_windAt, by decide +kernel, by decide +kernel, by decide +kernel⟩
theorem vy_X6_windAt : cl_vy yX6_windAt := ⟨im_X6_windAt, se_X6_windAt⟩
def f_X6_rainAt_71 (r4 : cl_M → Nat → Int32 → Int32 → Int32 → Option (Int32)) (M : cl_M) (t0 : Nat) (a1 : Int32) (a3 : Int32) (z0 : Int32) (z1 : Int32) : Option (Int32) := cl_let (z1 + z0) (fun v8 => cl_let (a3 + 1) (fun v9 => r4 M t0 a1 v8 v9))
set_option maxHeartbeats 4000000 in
set_option maxRecDepth 100000 in
theorem k_X6_rainAt_71 {p : Program} {l : Launch} {e : Env} {s : State} {m : MethodId} {args : Array Value} {below : List Frame} {meth : Method} {c : Code} {dd : cl_D} {b : Nat} (C : cl_C p l s m args meth c cX6_rainAt RX6 5 (some .int) dd b) {r4 : cl_M → Nat → Int32 → Int32 → Int32 → Option (Int32)} (hr4 : ∀ (M : cl_M) (t0 : Nat) (a1 : Int32) (a2 : Int32) (a3 : Int32) (r : Int32), r4 M t0 a1 a2 a3 = some r → ∀ (H : Heap) (locs : List Loc) (ls : Array Slot), cl_sh dd t0 = 6 → cl_H dd b M s H locs → lv_has ls 5 [(0, .ref (b + t0)), (1, .int a1), (2, .int a2), (3, .int a3)] → W p l e { frames := 1, cells := 0, slots := 0, locals := 22 } s m args below meth c H locs 0 0 (cl_Zi below args s dd b r M) (F0 m 4 ls [])) : ∀ (M : cl_M) (t0 : Nat) (a1 : Int32) (a3 : Int32) (z0 : Int32) (z1 : Int32) (r : Int32), f_X6_rainAt_71 r4 M t0 a1 a3 z0 z1 = some r → ∀ (H : Heap) (locs : List Loc) (ls : Array Slot), cl_sh dd t0 = 6 → cl_H dd b M s H locs → lv_has ls 5 [(0, .ref (b + t0)), (1, .int a1), (3, .int a3)] → W p l e { frames := 1, cells := 0, slots := 0, locals := 22 } s m args below meth c H locs 0 0 (cl_Zi below args s dd b r M) (F0 m 71 ls [.int z0, .int z1]) := by
  have hx := C.1
  have hb := C.2.1
  have hlt := C.2.2.2.2.2.2.2.2.2.2
  have hRr := C.2.2.2.2.2.2.2.2.2.1
  intro M t0 a1 a3 z0 z1 r hf H locs ls ht0 hw hl
  unfold f_X6_rainAt_71 at hf
  refine lv_iadd hx hb dX6_rainAt_71 ?_
  obtain ⟨v8, ev8, hf⟩ := cl_let_e hf
  refine cr_top ev8 ?_
  refine lv_istore_n (lv' := [(2, .int v8), (0, .ref (b + t0)), (1, .int a1), (3, .int a3)]) hx hb dX6_rainAt_72 rfl hl (by decide) rfl (fun ls hl => ?_)
  obtain ⟨v9, ev9, hf⟩ := cl_let_e hf
  refine lv_iinc (v := v9) (lv' := [(3, .int v9), (2, .int v8), (0, .ref (b + t0)), (1, .int a1)]) hx hb dX6_rainAt_73 hl (k := 3) rfl (by rw [ev9]; rfl) (by decide) rfl (fun ls hl => ?_)
  refine lv_goto (tgt := 4) hx hb dX6_rainAt_76 (by decide) ?_
  exact hr4 M t0 a1 v8 v9 _ hf _ _ _ ht0 hw (lv_sub hl [2, 3, 1, 0] rfl)
def f_X6_rainAt_4 : Nat → cl_M → Nat → Int32 → Int32 → Int32 → Option (Int32)
  | 0, _, _, _, _, _ => none
  | k + 1, M, t0, a1, a2, a3 => if (M (t0 + 2) 5) ≤ a3 then some a2 else if cl_inb (19 + (3 * a3)) 149 = true then cl_let (a1 - (M (t0 + 2) ((19 + (3 * a3)).toNatClampNeg))) (fun v3 => if cl_inb ((19 + (3 * a3)) + 1) 149 = true then (f_X6_inRange M v3 0 ((M (t0 + 2) (((19 + (3 * a3)) + 1).toNatClampNeg)) - 1)).bind (fun v5 => if v5 = 0 then f_X6_rainAt_71 (f_X6_rainAt_4 k) M t0 a1 a3 0 a2 else if cl_inb ((19 + (3 * a3)) + 2) 149 = true then f_X6_rainAt_71 (f_X6_rainAt_4 k) M t0 a1 a3 (M (t0 + 2) (((19 + (3 * a3)) + 2).toNatClampNeg)) a2 else none) else none) else none
set_option maxHeartbeats 4000000 in
set_option maxRecDepth 100000 in
theorem k_X6_rainAt_4 {p : Program} {l : Launch} {e : Env} {s : State} {m : MethodId} {args : Array Value} {below : List Frame} {meth : Method} {c : Code} {dd : cl_D} {b : Nat} (C : cl_C p l s m args meth c cX6_rainAt RX6 5 (some .int) dd b) : ∀ (k : Nat), ∀ (M : cl_M) (t0 : Nat) (a1 : Int32) (a2 : Int32) (a3 : Int32) (r : Int32), f_X6_rainAt_4 k M t0 a1 a2 a3 = some r → ∀ (H : Heap) (locs : List Loc) (ls : Array Slot), cl_sh dd t0 = 6 → cl_H dd b M s H locs → lv_has ls 5 [(0, .ref (b + t0)), (1, .int a1), (2, .int a2), (3, .int a3)] → W p l e { frames := 1, cells := 0, slots := 0, locals := 22 } s m args below meth c H locs 0 0 (cl_Zi below args s dd b r M) (F0 m 4 ls []) := by
  have hx := C.1
  have hb := C.2.1
  have hlt := C.2.2.2.2.2.2.2.2.2.2
  have hRr := C.2.2.2.2.2.2.2.2.2.1
  intro k
  induction k with
  | zero =>
    intro M t0 a1 a2 a3 r hf H locs ls ht0 hw hl
    rw [f_X6_rainAt_4] at hf
    cases hf
  | succ k ih =>
    intro M t0 a1 a2 a3 r hf H locs ls ht0 hw hl
    rw [f_X6_rainAt_4] at hf
    refine lv_iload_n hx hb dX6_rainAt_4 rfl (lv_at hl 3 rfl) ?_
    refine lv_aload_n hx hb dX6_rainAt_5 rfl (lv_at hl 0 rfl) ?_
    refine fg_X6_17 C hw ht0 dX6_rainAt_6 ?_
    refine lv_iconst (v := 5) hx hb dX6_rainAt_9 (by decide) ?_
    refine cr_iald C hw (sh_6_5 ht0).1 (sh_6_5 ht0).2 (by decide) (k := 5) rfl dX6_rainAt_10 ?_
    refine lv_icmp_ge (tgt := 79) hx hb dX6_rainAt_11 (by decide) (fun c1 => ?_) (fun c1 => ?_)
    · have hf := cl_yes c1 hf
      refine lv_iload_n hx hb dX6_rainAt_79 rfl (lv_at hl 2 rfl) ?_
      obtain rfl := Option.some.inj hf
      exact cr_reti C hw dX6_rainAt_80
    · have hf := cl_no c1 hf
      refine lv_iload_n hx hb dX6_rainAt_14 rfl (lv_at hl 1 rfl) ?_
      refine lv_aload_n hx hb dX6_rainAt_15 rfl (lv_at hl 0 rfl) ?_
      refine fg_X6_17 C hw ht0 dX6_rainAt_16 ?_
      refine lv_bipush (v := 19) hx hb dX6_rainAt_19 (by decide) ?_
      refine lv_iconst (v := 3) hx hb dX6_rainAt_21 (by decide) ?_
      refine lv_iload_n hx hb dX6_rainAt_22 rfl (lv_at hl 3 rfl) ?_
      refine lv_imul hx hb dX6_rainAt_23 ?_
      refine lv_iadd hx hb dX6_rainAt_24 ?_
      obtain ⟨q2, hf⟩ := cl_grd hf
      refine cr_iald C hw (sh_6_5 ht0).1 (sh_6_5 ht0).2 q2 (k := (19 + (3 * a3)).toNatClampNeg) rfl dX6_rainAt_25 ?_
      refine lv_isub hx hb dX6_rainAt_26 ?_
      obtain ⟨v3, ev3, hf⟩ := cl_let_e hf
      refine cr_top ev3 ?_
      refine lv_istore (lv' := [(4, .int v3), (0, .ref (b + t0)), (1, .int a1), (2, .int a2), (3, .int a3)]) hx hb dX6_rainAt_27 hl (by decide) rfl (fun ls hl => ?_)
      refine lv_iload_n hx hb dX6_rainAt_29 rfl (lv_at hl 3 rfl) ?_
      refine lv_iload hx hb dX6_rainAt_30 (lv_at hl 0 rfl) ?_
      refine lv_iconst (v := 0) hx hb dX6_rainAt_32 (by decide) ?_
      refine lv_aload_n hx hb dX6_rainAt_33 rfl (lv_at hl 1 rfl) ?_
      refine fg_X6_17 C hw ht0 dX6_rainAt_34 ?_
      refine lv_bipush (v := 19) hx hb dX6_rainAt_37 (by decide) ?_
      refine lv_iconst (v := 3) hx hb dX6_rainAt_39 (by decide) ?_
      refine lv_iload_n hx hb dX6_rainAt_40 rfl (lv_at hl 4 rfl) ?_
      refine lv_imul hx hb dX6_rainAt_41 ?_
      refine lv_iadd hx hb dX6_rainAt_42 ?_
      refine lv_iconst (v := 1) hx hb dX6_rainAt_43 (by decide) ?_
      refine lv_iadd hx hb dX6_rainAt_44 ?_
      obtain ⟨q4, hf⟩ := cl_grd hf
      refine cr_iald C hw (sh_6_5 ht0).1 (sh_6_5 ht0).2 q4 (k := ((19 + (3 * a3)) + 1).toNatClampNeg) rfl dX6_rainAt_45 ?_
      refine lv_iconst (v := 1) hx hb dX6_rainAt_46 (by decide) ?_
      refine lv_isub hx hb dX6_rainAt_47 ?_
      obtain ⟨v5, e6, hf⟩ := cl_bind_e hf
      refine cr_Si C hw (c_X6_inRange hlt e6) cy_X6_inRange st_X6_inRange ml_X6_63 (As := [.int v3, .int 0, .int ((M (t0 + 2) (((19 + (3 * a3)) + 1).toNatClampNeg)) - 1)]) rfl hl.1 rfl ⟨⟨Nat.le_of_ble_eq_true rfl, Nat.le_of_ble_eq_true rfl⟩, Nat.le_of_ble_eq_true rfl, Nat.le_of_ble_eq_true rfl, Nat.le_of_ble_eq_true rfl⟩ dX6_rainAt_48 (fun H locs hw => ?_)
      refine lv_if_eq (tgt := 70) hx hb dX6_rainAt_51 (by decide) (fun c7 => ?_) (fun c7 => ?_)
      · have hf := cl_yes c7 hf
        refine lv_iconst (v := 0) hx hb dX6_rainAt_70 (by decide) ?_
        exact k_X6_rainAt_71 C ih M t0 a1 a3 0 a2 _ hf _ _ _ ht0 hw (lv_sub hl [1, 2, 4] rfl)
      · have hf := cl_no c7 hf
        refine lv_aload_n hx hb dX6_rainAt_54 rfl (lv_at hl 1 rfl) ?_
        refine fg_X6_17 C hw ht0 dX6_rainAt_55 ?_
        refine lv_bipush (v := 19) hx hb dX6_rainAt_58 (by decide) ?_
        refine lv_iconst (v := 3) hx hb dX6_rainAt_60 (by decide) ?_
        refine lv_iload_n hx hb dX6_rainAt_61 rfl (lv_at hl 4 rfl) ?_
        refine lv_imul hx hb dX6_rainAt_62 ?_
        refine lv_iadd hx hb dX6_rainAt_63 ?_
        refine lv_iconst (v := 2) hx hb dX6_rainAt_64 (by decide) ?_
        refine lv_iadd hx hb dX6_rainAt_65 ?_
        obtain ⟨q10, hf⟩ := cl_grd hf
        refine cr_iald C hw (sh_6_5 ht0).1 (sh_6_5 ht0).2 q10 (k := ((19 + (3 * a3)) + 2).toNatClampNeg) rfl dX6_rainAt_66 ?_
        refine lv_goto (tgt := 71) hx hb dX6_rainAt_67 (by decide) ?_
        exact k_X6_rainAt_71 C ih M t0 a1 a3 (M (t0 + 2) (((19 + (3 * a3)) + 2).toNatClampNeg)) a2 _ hf _ _ _ ht0 hw (lv_sub hl [1, 2, 4] rfl)
def f_X6_rainAt (M : cl_M) (t0 : Nat) (a1 : Int32) : Option (Int32) := f_X6_rainAt_4 cl_F M t0 a1 0 0
set_option maxHeartbeats 4000000 in
set_option maxRecDepth 100000 in
theorem k_X6_rainAt {p : Program} {l : Launch} {e : Env} {s : State} {m : MethodId} {args : Array Value} {below : List Frame} {meth : Method} {c : Code} {dd : cl_D} {b : Nat} (C : cl_C p l s m args meth c cX6_rainAt RX6 5 (some .int) dd b) : ∀ (M : cl_M) (t0 : Nat) (a1 : Int32) (r : Int32), f_X6_rainAt M t0 a1 = some r → ∀ (H : Heap) (locs : List Loc) (ls : Array Slot), cl_sh dd t0 = 6 → cl_H dd b M s H locs → lv_has ls 5 [(0, .ref (b + t0)), (1, .int a1)] → W p l e { frames := 1, cells := 0, slots := 0, locals := 22 } s m args below meth c H locs 0 0 (cl_Zi below args s dd b r M) (F0 m 0 ls []) := by
  have hx := C.1
  have hb := C.2.1
  have hlt := C.2.2.2.2.2.2.2.2.2.2
  have hRr := C.2.2.2.2.2.2.2.2.2.1
  intro M t0 a1 r hf H locs ls ht0 hw hl
  unfold f_X6_rainAt at hf
  refine lv_iconst (v := 0) hx hb dX6_rainAt_0 (by decide) ?_
  refine lv_istore_n (lv' := [(2, .int 0), (0, .ref (b + t0)), (1, .int a1)]) hx hb dX6_rainAt_1 rfl hl (by decide) rfl (fun ls hl => ?_)
  refine lv_iconst (v := 0) hx hb dX6_rainAt_2 (by decide) ?_
  refine lv_istore_n (lv' := [(3, .int 0), (2, .int 0), (0, .ref (b + t0)), (1, .int a1)]) hx hb dX6_rainAt_3 rfl hl (by decide) rfl (fun ls hl => ?_)
  exact k_X6_rainAt_4 C cl_F M t0 a1 0 0 _ hf _ _ _ ht0 hw (lv_sub hl [2, 3, 1, 0] rfl)
set_option maxRecDepth 100000 in
theorem c_X6_rainAt {l : Launch} {dd : cl_D} {b : Nat} (hlt : l.stackTraces = false) {M : cl_M} {t0 : Nat} {a1 : Int32}  {r : Int32} (ht0 : cl_sh dd t0 = 6) (h : f_X6_rainAt M t0 a1 = some r) : cl_Mi l dd b yX6_rainAt cX6_rainAt 5 (some .int) 1 22 [.ref (b + t0), .int a1] M r M :=
  cl_of hlt (by decide) (Nat.le_of_ble_eq_true rfl) (fun p e s m below meth c ls C hw hl => k_X6_rainAt C M t0 a1 r h _ _ _ ht0 hw (lv_sub hl [0, 1] rfl))
theorem cy_X6_rainAt : cl_cy yX6_rainAt cX6_rainAt 5 (some .int) 1 := ⟨in_ClothesLineModel, cd_X6_rainAt, by decide +kernel, by decide +kernel, by decide +kernel⟩
theorem vy_X6_rainAt : cl_vy yX6_rainAt := ⟨im_X6_rainAt, se_X6_rainAt⟩
def f_X6_sunnyAt_15 : Nat → cl_M → Nat → Int32 → Int32 → Int32 → Option (Int32)
  | 0, _, _, _, _, _ => none
  | k + 1, M, t0, a1, a2, a3 => if (M (t0 + 2) 1) ≤ a3 then some a2 else cl_let (a2 &&& ((1 <<< ((((a1 / 30) + a3) - ((a1 / 30) + a3) / 24 * 24) &&& 31)) ^^^ (-1))) (fun v5 => cl_let (a3 + 1) (fun v6 => f_X6_sunnyAt_15 k M t0 a1 v5 v6))
set_option maxHeartbeats 4000000 in
set_option maxRecDepth 100000 in
theorem k_X6_sunnyAt_15 {p : Program} {l : Launch} {e : Env} {s : State} {m : MethodId} {args : Array Value} {below : List Frame} {meth : Method} {c : Code} {dd : cl_D} {b : Nat} (C : cl_C p l s m args meth c cX6_sunnyAt RX6 4 (some .int) dd b) : ∀ (k : Nat), ∀ (M : cl_M) (t0 : Nat) (a1 : Int32) (a2 : Int32) (a3 : Int32) (r : Int32), f_X6_sunnyAt_15 k M t0 a1 a2 a3 = some r → ∀ (H : Heap) (locs : List Loc) (ls : Array Slot), cl_sh dd t0 = 6 → cl_H dd b M s H locs → lv_has ls 4 [(0, .ref (b + t0)), (1, .int a1), (2, .int a2), (3, .int a3)] → W p l e { frames := 2, cells := 0, slots := 0, locals := 46 } s m args below meth c H locs 0 0 (cl_Zi below args s dd b r M) (F0 m 15 ls []) := by
  have hx := C.1
  have hb := C.2.1
  have hlt := C.2.2.2.2.2.2.2.2.2.2
  have hRr := C.2.2.2.2.2.2.2.2.2.1
  intro k
  induction k with
  | zero =>
    intro M t0 a1 a2 a3 r hf H locs ls ht0 hw hl
    rw [f_X6_sunnyAt_15] at hf
    cases hf
  | succ k ih =>
    intro M t0 a1 a2 a3 r hf H locs ls ht0 hw hl
    rw [f_X6_sunnyAt_15] at hf
    refine lv_iload_n hx hb dX6_sunnyAt_15 rfl (lv_at hl 3 rfl) ?_
    refine lv_aload_n hx hb dX6_sunnyAt_16 rfl (lv_at hl 0 rfl) ?_
    refine fg_X6_17 C hw ht0 dX6_sunnyAt_17 ?_
    refine lv_iconst (v := 1) hx hb dX6_sunnyAt_20 (by decide) ?_
    refine cr_iald C hw (sh_6_5 ht0).1 (sh_6_5 ht0).2 (by decide) (k := 1) rfl dX6_sunnyAt_21 ?_
    refine lv_icmp_ge (tgt := 47) hx hb dX6_sunnyAt_22 (by decide) (fun c4 => ?_) (fun c4 => ?_)
    · have hf := cl_yes c4 hf
      refine lv_iload_n hx hb dX6_sunnyAt_47 rfl (lv_at hl 2 rfl) ?_
      obtain rfl := Option.some.inj hf
      exact cr_reti C hw dX6_sunnyAt_48
    · have hf := cl_no c4 hf
      refine lv_iload_n hx hb dX6_sunnyAt_25 rfl (lv_at hl 2 rfl) ?_
      refine lv_iconst (v := 1) hx hb dX6_sunnyAt_26 (by decide) ?_
      refine lv_iload_n hx hb dX6_sunnyAt_27 rfl (lv_at hl 1 rfl) ?_
      refine lv_bipush (v := 30) hx hb dX6_sunnyAt_28 (by decide) ?_
      refine lv_idiv hx hb dX6_sunnyAt_30 (by decide) ?_
      refine lv_iload_n hx hb dX6_sunnyAt_31 rfl (lv_at hl 3 rfl) ?_
      refine lv_iadd hx hb dX6_sunnyAt_32 ?_
      refine lv_bipush (v := 24) hx hb dX6_sunnyAt_33 (by decide) ?_
      refine lv_irem hx hb dX6_sunnyAt_35 (by decide) ?_
      refine lv_ishl hx hb dX6_sunnyAt_36 ?_
      refine lv_iconst (v := (-1)) hx hb dX6_sunnyAt_37 (by decide) ?_
      refine lv_ixor hx hb dX6_sunnyAt_38 ?_
      refine lv_iand hx hb dX6_sunnyAt_39 ?_
      obtain ⟨v5, ev5, hf⟩ := cl_let_e hf
      refine cr_top ev5 ?_
      refine lv_istore_n (lv' := [(2, .int v5), (0, .ref (b + t0)), (1, .int a1), (3, .int a3)]) hx hb dX6_sunnyAt_40 rfl hl (by decide) rfl (fun ls hl => ?_)
      obtain ⟨v6, ev6, hf⟩ := cl_let_e hf
      refine lv_iinc (v := v6) (lv' := [(3, .int v6), (2, .int v5), (0, .ref (b + t0)), (1, .int a1)]) hx hb dX6_sunnyAt_41 hl (k := 3) rfl (by rw [ev6]; rfl) (by decide) rfl (fun ls hl => ?_)
      refine lv_goto (tgt := 15) hx hb dX6_sunnyAt_44 (by decide) ?_
      exact ih M t0 a1 v5 v6 _ hf _ _ _ ht0 hw (lv_sub hl [2, 3, 1, 0] rfl)
def f_X6_sunnyAt (M : cl_M) (t0 : Nat) (a1 : Int32) : Option (Int32) := (f_X6_rainAt M t0 a1).bind (fun v1 => if v1 ≤ 0 then f_X6_sunnyAt_15 cl_F M t0 a1 16777215 0 else some 0)
set_option maxHeartbeats 4000000 in
set_option maxRecDepth 100000 in
theorem k_X6_sunnyAt {p : Program} {l : Launch} {e : Env} {s : State} {m : MethodId} {args : Array Value} {below : List Frame} {meth : Method} {c : Code} {dd : cl_D} {b : Nat} (C : cl_C p l s m args meth c cX6_sunnyAt RX6 4 (some .int) dd b) : ∀ (M : cl_M) (t0 : Nat) (a1 : Int32) (r : Int32), f_X6_sunnyAt M t0 a1 = some r → ∀ (H : Heap) (locs : List Loc) (ls : Array Slot), cl_sh dd t0 = 6 → cl_H dd b M s H locs → lv_has ls 4 [(0, .ref (b + t0)), (1, .int a1)] → W p l e { frames := 2, cells := 0, slots := 0, locals := 46 } s m args below meth c H locs 0 0 (cl_Zi below args s dd b r M) (F0 m 0 ls []) := by
  have hx := C.1
  have hb := C.2.1
  have hlt := C.2.2.2.2.2.2.2.2.2.2
  have hRr := C.2.2.2.2.2.2.2.2.2.1
  intro M t0 a1 r hf H locs ls ht0 hw hl
  unfold f_X6_sunnyAt at hf
  refine lv_aload_n hx hb dX6_sunnyAt_0 rfl (lv_at hl 0 rfl) ?_
  refine lv_iload_n hx hb dX6_sunnyAt_1 rfl (lv_at hl 1 rfl) ?_
  obtain ⟨v1, e2, hf⟩ := cl_bind_e hf
  refine cr_Vi C hw (c_X6_rainAt hlt ht0 e2) cy_X6_rainAt vy_X6_rainAt ml_X6_67 (cl_lt ht0 (by decide)) (cl_e6 ht0) rfl rfl (As := [.int a1]) rfl hl.1 rfl ⟨⟨Nat.le_of_ble_eq_true rfl, Nat.le_of_ble_eq_true rfl⟩, Nat.le_of_ble_eq_true rfl, Nat.le_of_ble_eq_true rfl, Nat.le_of_ble_eq_true rfl⟩ dX6_sunnyAt_2 (fun H locs hw => ?_)
  refine lv_if_le (tgt := 10) hx hb dX6_sunnyAt_5 (by decide) (fun c3 => ?_) (fun c3 => ?_)
  · have hf := cl_yes c3 hf
    refine lv_ldc (v := 16777215) hx hb C.2.2.2.1 (C.2.2.2.2.1 _ kl_X6_71) dX6_sunnyAt_10 ?_
    refine lv_istore_n (lv' := [(2, .int 16777215), (0, .ref (b + t0)), (1, .int a1)]) hx hb dX6_sunnyAt_12 rfl hl (by decide) rfl (fun ls hl => ?_)
    refine lv_iconst (v := 0) hx hb dX6_sunnyAt_13 (by decide) ?_
    refine lv_istore_n (lv' := [(3, .int 0), (2, .int 16777215), (0, .ref (b + t0)), (1, .int a1)]) hx hb dX6_sunnyAt_14 rfl hl (by decide) rfl (fun ls hl => ?_)
    exact k_X6_sunnyAt_15 C cl_F M t0 a1 16777215 0 _ hf _ _ _ ht0 hw (lv_sub hl [2, 3, 1, 0] rfl)
  · have hf := cl_no c3 hf
    refine lv_iconst (v := 0) hx hb dX6_sunnyAt_8 (by decide) ?_
    obtain rfl := Option.some.inj hf
    exact cr_reti C hw dX6_sunnyAt_9
set_option maxRecDepth 100000 in
theorem c_X6_sunnyAt {l : Launch} {dd : cl_D} {b : Nat} (hlt : l.stackTraces = false) {M : cl_M} {t0 : Nat} {a1 : Int32}  {r : Int32} (ht0 : cl_sh dd t0 = 6) (h : f_X6_sunnyAt M t0 a1 = some r) : cl_Mi l dd b yX6_sunnyAt cX6_sunnyAt 4 (some .int) 2 46 [.ref (b + t0), .int a1] M r M :=
  cl_of hlt (by decide) (Nat.le_of_ble_eq_true rfl) (fun p e s m below meth c ls C hw hl => k_X6_sunnyAt C M t0 a1 r h _ _ _ ht0 hw (lv_sub hl [0, 1] rfl))
theorem cy_X6_sunnyAt : cl_cy yX6_sunnyAt cX6_sunnyAt 4 (some .int) 1 := ⟨in_ClothesLineModel, cd_X6_sunnyAt, by decide +kernel, by decide +kernel, by decide +kernel⟩
theorem vy_X6_sunnyAt : cl_vy yX6_sunnyAt := ⟨im_X6_sunnyAt, se_X6_sunnyAt⟩
def f_X6_smokyAt_86 (M : cl_M) (z0 : Int32) : Option (Int32) := some z0
set_option maxHeartbeats 4000000 in
set_option maxRecDepth 100000 in
theorem k_X6_smokyAt_86 {p : Program} {l : Launch} {e : Env} {s : State} {m : MethodId} {args : Array Value} {below : List Frame} {meth : Method} {c : Code} {dd : cl_D} {b : Nat} (C : cl_C p l s m args meth c cX6_smokyAt RX6 4 (some .int) dd b) : ∀ (M : cl_M) (z0 : Int32) (r : Int32), f_X6_smokyAt_86 M z0 = some r → ∀ (H : Heap) (locs : List Loc) (ls : Array Slot), cl_H dd b M s H locs → lv_has ls 4 [] → W p l e { frames := 1, cells := 0, slots := 0, locals := 22 } s m args below meth c H locs 0 0 (cl_Zi below args s dd b r M) (F0 m 86 ls [.int z0]) := by
  have hx := C.1
  have hb := C.2.1
  have hlt := C.2.2.2.2.2.2.2.2.2.2
  have hRr := C.2.2.2.2.2.2.2.2.2.1
  intro M z0 r hf H locs ls hw hl
  unfold f_X6_smokyAt_86 at hf
  obtain rfl := Option.some.inj hf
  exact cr_reti C hw dX6_smokyAt_86
def f_X6_smokyAt_55 (r4 : cl_M → Nat → Int32 → Int32 → Int32 → Option (Int32)) (M : cl_M) (t0 : Nat) (a1 : Int32) (a3 : Int32) (z0 : Int32) : Option (Int32) := cl_let (a3 + 1) (fun v6 => r4 M t0 a1 z0 v6)
set_option maxHeartbeats 4000000 in
set_option maxRecDepth 100000 in
theorem k_X6_smokyAt_55 {p : Program} {l : Launch} {e : Env} {s : State} {m : MethodId} {args : Array Value} {below : List Frame} {meth : Method} {c : Code} {dd : cl_D} {b : Nat} (C : cl_C p l s m args meth c cX6_smokyAt RX6 4 (some .int) dd b) {r4 : cl_M → Nat → Int32 → Int32 → Int32 → Option (Int32)} (hr4 : ∀ (M : cl_M) (t0 : Nat) (a1 : Int32) (a2 : Int32) (a3 : Int32) (r : Int32), r4 M t0 a1 a2 a3 = some r → ∀ (H : Heap) (locs : List Loc) (ls : Array Slot), cl_sh dd t0 = 6 → cl_H dd b M s H locs → lv_has ls 4 [(0, .ref (b + t0)), (1, .int a1), (2, .int a2), (3, .int a3)] → W p l e { frames := 1, cells := 0, slots := 0, locals := 22 } s m args below meth c H locs 0 0 (cl_Zi below args s dd b r M) (F0 m 4 ls [])) : ∀ (M : cl_M) (t0 : Nat) (a1 : Int32) (a3 : Int32) (z0 : Int32) (r : Int32), f_X6_smokyAt_55 r4 M t0 a1 a3 z0 = some r → ∀ (H : Heap) (locs : List Loc) (ls : Array Slot), cl_sh dd t0 = 6 → cl_H dd b M s H locs → lv_has ls 4 [(0, .ref (b + t0)), (1, .int a1), (3, .int a3)] → W p l e { frames := 1, cells := 0, slots := 0, locals := 22 } s m args below meth c H locs 0 0 (cl_Zi below args s dd b r M) (F0 m 55 ls [.int z0]) := by
  have hx := C.1
  have hb := C.2.1
  have hlt := C.2.2.2.2.2.2.2.2.2.2
  have hRr := C.2.2.2.2.2.2.2.2.2.1
  intro M t0 a1 a3 z0 r hf H locs ls ht0 hw hl
  unfold f_X6_smokyAt_55 at hf
  refine lv_istore_n (lv' := [(2, .int z0), (0, .ref (b + t0)), (1, .int a1), (3, .int a3)]) hx hb dX6_smokyAt_55 rfl hl (by decide) rfl (fun ls hl => ?_)
  obtain ⟨v6, ev6, hf⟩ := cl_let_e hf
  refine lv_iinc (v := v6) (lv' := [(3, .int v6), (2, .int z0), (0, .ref (b + t0)), (1, .int a1)]) hx hb dX6_smokyAt_56 hl (k := 3) rfl (by rw [ev6]; rfl) (by decide) rfl (fun ls hl => ?_)
  refine lv_goto (tgt := 4) hx hb dX6_smokyAt_59 (by decide) ?_
  exact hr4 M t0 a1 z0 v6 _ hf _ _ _ ht0 hw (lv_sub hl [2, 3, 1, 0] rfl)
def f_X6_smokyAt_50 (r4 : cl_M → Nat → Int32 → Int32 → Int32 → Option (Int32)) (M : cl_M) (t0 : Nat) (a1 : Int32) (a3 : Int32) : Option (Int32) := f_X6_smokyAt_55 r4 M t0 a1 a3 1
set_option maxHeartbeats 4000000 in
set_option maxRecDepth 100000 in
theorem k_X6_smokyAt_50 {p : Program} {l : Launch} {e : Env} {s : State} {m : MethodId} {args : Array Value} {below : List Frame} {meth : Method} {c : Code} {dd : cl_D} {b : Nat} (C : cl_C p l s m args meth c cX6_smokyAt RX6 4 (some .int) dd b) {r4 : cl_M → Nat → Int32 → Int32 → Int32 → Option (Int32)} (hr4 : ∀ (M : cl_M) (t0 : Nat) (a1 : Int32) (a2 : Int32) (a3 : Int32) (r : Int32), r4 M t0 a1 a2 a3 = some r → ∀ (H : Heap) (locs : List Loc) (ls : Array Slot), cl_sh dd t0 = 6 → cl_H dd b M s H locs → lv_has ls 4 [(0, .ref (b + t0)), (1, .int a1), (2, .int a2), (3, .int a3)] → W p l e { frames := 1, cells := 0, slots := 0, locals := 22 } s m args below meth c H locs 0 0 (cl_Zi below args s dd b r M) (F0 m 4 ls [])) : ∀ (M : cl_M) (t0 : Nat) (a1 : Int32) (a3 : Int32) (r : Int32), f_X6_smokyAt_50 r4 M t0 a1 a3 = some r → ∀ (H : Heap) (locs : List Loc) (ls : Array Slot), cl_sh dd t0 = 6 → cl_H dd b M s H locs → lv_has ls 4 [(0, .ref (b + t0)), (1, .int a1), (3, .int a3)] → W p l e { frames := 1, cells := 0, slots := 0, locals := 22 } s m args below meth c H locs 0 0 (cl_Zi below args s dd b r M) (F0 m 50 ls []) := by
  have hx := C.1
  have hb := C.2.1
  have hlt := C.2.2.2.2.2.2.2.2.2.2
  have hRr := C.2.2.2.2.2.2.2.2.2.1
  intro M t0 a1 a3 r hf H locs ls ht0 hw hl
  unfold f_X6_smokyAt_50 at hf
  refine lv_iconst (v := 1) hx hb dX6_smokyAt_50 (by decide) ?_
  refine lv_goto (tgt := 55) hx hb dX6_smokyAt_51 (by decide) ?_
  exact k_X6_smokyAt_55 C hr4 M t0 a1 a3 1 _ hf _ _ _ ht0 hw (lv_sub hl [0, 1, 2] rfl)
def f_X6_smokyAt_4 : Nat → cl_M → Nat → Int32 → Int32 → Int32 → Option (Int32)
  | 0, _, _, _, _, _ => none
  | k + 1, M, t0, a1, a2, a3 => if (M (t0 + 2) 6) ≤ a3 then if a2 = 0 then f_X6_smokyAt_86 M 0 else (f_X6_windAt M t0 a1).bind (fun v3 => f_X6_smokyAt_86 M ((1 <<< ((if (4 * v3) < 24 then (4 * v3) else 24) &&& 31)) - 1)) else if a2 = 0 then if cl_inb (31 + (2 * a3)) 149 = true then if cl_inb ((31 + (2 * a3)) + 1) 149 = true then (f_X6_inRange M a1 (M (t0 + 2) ((31 + (2 * a3)).toNatClampNeg)) (M (t0 + 2) (((31 + (2 * a3)) + 1).toNatClampNeg))).bind (fun v9 => if v9 = 0 then f_X6_smokyAt_55 (f_X6_smokyAt_4 k) M t0 a1 a3 0 else f_X6_smokyAt_50 (f_X6_smokyAt_4 k) M t0 a1 a3) else none else none else f_X6_smokyAt_50 (f_X6_smokyAt_4 k) M t0 a1 a3
set_option maxHeartbeats 4000000 in
set_option maxRecDepth 100000 in
theorem k_X6_smokyAt_4 {p : Program} {l : Launch} {e : Env} {s : State} {m : MethodId} {args : Array Value} {below : List Frame} {meth : Method} {c : Code} {dd : cl_D} {b : Nat} (C : cl_C p l s m args meth c cX6_smokyAt RX6 4 (some .int) dd b) : ∀ (k : Nat), ∀ (M : cl_M) (t0 : Nat) (a1 : Int32) (a2 : Int32) (a3 : Int32) (r : Int32), f_X6_smokyAt_4 k M t0 a1 a2 a3 = some r → ∀ (H : Heap) (locs : List Loc) (ls : Array Slot), cl_sh dd t0 = 6 → cl_H dd b M s H locs → lv_has ls 4 [(0, .ref (b + t0)), (1, .int a1), (2, .int a2), (3, .int a3)] → W p l e { frames := 1, cells := 0, slots := 0, locals := 22 } s m args below meth c H locs 0 0 (cl_Zi below args s dd b r M) (F0 m 4 ls []) := by
  have hx := C.1
  have hb := C.2.1
  have hlt := C.2.2.2.2.2.2.2.2.2.2
  have hRr := C.2.2.2.2.2.2.2.2.2.1
  intro k
  induction k with
  | zero =>
    intro M t0 a1 a2 a3 r hf H locs ls ht0 hw hl
    rw [f_X6_smokyAt_4] at hf
    cases hf
  | succ k ih =>
    intro M t0 a1 a2 a3 r hf H locs ls ht0 hw hl
    rw [f_X6_smokyAt_4] at hf
    refine lv_iload_n hx hb dX6_smokyAt_4 rfl (lv_at hl 3 rfl) ?_
    refine lv_aload_n hx hb dX6_smokyAt_5 rfl (lv_at hl 0 rfl) ?_
    refine fg_X6_17 C hw ht0 dX6_smokyAt_6 ?_
    refine lv_bipush (v := 6) hx hb dX6_smokyAt_9 (by decide) ?_
    refine cr_iald C hw (sh_6_5 ht0).1 (sh_6_5 ht0).2 (by decide) (k := 6) rfl dX6_smokyAt_11 ?_
    refine lv_icmp_ge (tgt := 62) hx hb dX6_smokyAt_12 (by decide) (fun c1 => ?_) (fun c1 => ?_)
    · have hf := cl_yes c1 hf
      refine lv_iload_n hx hb dX6_smokyAt_62 rfl (lv_at hl 2 rfl) ?_
      refine lv_if_eq (tgt := 85) hx hb dX6_smokyAt_63 (by decide) (fun c2 => ?_) (fun c2 => ?_)
      · have hf := cl_yes c2 hf
        refine lv_iconst (v := 0) hx hb dX6_smokyAt_85 (by decide) ?_
        exact k_X6_smokyAt_86 C M 0 _ hf _ _ _ hw (lv_sub hl [] rfl)
      · have hf := cl_no c2 hf
        refine lv_iconst (v := 1) hx hb dX6_smokyAt_66 (by decide) ?_
        refine lv_bipush (v := 24) hx hb dX6_smokyAt_67 (by decide) ?_
        refine lv_iconst (v := 4) hx hb dX6_smokyAt_69 (by decide) ?_
        refine lv_aload_n hx hb dX6_smokyAt_70 rfl (lv_at hl 0 rfl) ?_
        refine lv_iload_n hx hb dX6_smokyAt_71 rfl (lv_at hl 1 rfl) ?_
        obtain ⟨v3, e4, hf⟩ := cl_bind_e hf
        refine cr_Vi C hw (c_X6_windAt hlt ht0 e4) cy_X6_windAt vy_X6_windAt ml_X6_72 (cl_lt ht0 (by decide)) (cl_e6 ht0) rfl rfl (As := [.int a1]) rfl hl.1 rfl ⟨⟨Nat.le_of_ble_eq_true rfl, Nat.le_of_ble_eq_true rfl⟩, Nat.le_of_ble_eq_true rfl, Nat.le_of_ble_eq_true rfl, Nat.le_of_ble_eq_true rfl⟩ dX6_smokyAt_72 (fun H locs hw => ?_)
        refine lv_imul hx hb dX6_smokyAt_75 ?_
        refine cr_min C ml_X6_75 st_math_min in_math cd_math_min hl.1 ⟨Nat.le_of_ble_eq_true rfl, Nat.le_of_ble_eq_true rfl, Nat.le_of_ble_eq_true rfl, Nat.le_of_ble_eq_true rfl⟩ dX6_smokyAt_76 ?_
        refine lv_ishl hx hb dX6_smokyAt_79 ?_
        refine lv_iconst (v := 1) hx hb dX6_smokyAt_80 (by decide) ?_
        refine lv_isub hx hb dX6_smokyAt_81 ?_
        refine lv_goto (tgt := 86) hx hb dX6_smokyAt_82 (by decide) ?_
        exact k_X6_smokyAt_86 C M ((1 <<< ((if (4 * v3) < 24 then (4 * v3) else 24) &&& 31)) - 1) _ hf _ _ _ hw (lv_sub hl [] rfl)
    · have hf := cl_no c1 hf
      refine lv_iload_n hx hb dX6_smokyAt_15 rfl (lv_at hl 2 rfl) ?_
      refine lv_if_ne (tgt := 50) hx hb dX6_smokyAt_16 (by decide) (fun c5 => ?_) (fun c5 => ?_)
      · have hf := cl_no c5 hf
        exact k_X6_smokyAt_50 C ih M t0 a1 a3 _ hf _ _ _ ht0 hw (lv_sub hl [0, 1, 3] rfl)
      · have hf := cl_yes c5 hf
        refine lv_iload_n hx hb dX6_smokyAt_19 rfl (lv_at hl 1 rfl) ?_
        refine lv_aload_n hx hb dX6_smokyAt_20 rfl (lv_at hl 0 rfl) ?_
        refine fg_X6_17 C hw ht0 dX6_smokyAt_21 ?_
        refine lv_bipush (v := 31) hx hb dX6_smokyAt_24 (by decide) ?_
        refine lv_iconst (v := 2) hx hb dX6_smokyAt_26 (by decide) ?_
        refine lv_iload_n hx hb dX6_smokyAt_27 rfl (lv_at hl 3 rfl) ?_
        refine lv_imul hx hb dX6_smokyAt_28 ?_
        refine lv_iadd hx hb dX6_smokyAt_29 ?_
        obtain ⟨q7, hf⟩ := cl_grd hf
        refine cr_iald C hw (sh_6_5 ht0).1 (sh_6_5 ht0).2 q7 (k := (31 + (2 * a3)).toNatClampNeg) rfl dX6_smokyAt_30 ?_
        refine lv_aload_n hx hb dX6_smokyAt_31 rfl (lv_at hl 0 rfl) ?_
        refine fg_X6_17 C hw ht0 dX6_smokyAt_32 ?_
        refine lv_bipush (v := 31) hx hb dX6_smokyAt_35 (by decide) ?_
        refine lv_iconst (v := 2) hx hb dX6_smokyAt_37 (by decide) ?_
        refine lv_iload_n hx hb dX6_smokyAt_38 rfl (lv_at hl 3 rfl) ?_
        refine lv_imul hx hb dX6_smokyAt_39 ?_
        refine lv_iadd hx hb dX6_smokyAt_40 ?_
        refine lv_iconst (v := 1) hx hb dX6_smokyAt_41 (by decide) ?_
        refine lv_iadd hx hb dX6_smokyAt_42 ?_
        obtain ⟨q8, hf⟩ := cl_grd hf
        refine cr_iald C hw (sh_6_5 ht0).1 (sh_6_5 ht0).2 q8 (k := ((31 + (2 * a3)) + 1).toNatClampNeg) rfl dX6_smokyAt_43 ?_
        obtain ⟨v9, e10, hf⟩ := cl_bind_e hf
        refine cr_Si C hw (c_X6_inRange hlt e10) cy_X6_inRange st_X6_inRange ml_X6_63 (As := [.int a1, .int (M (t0 + 2) ((31 + (2 * a3)).toNatClampNeg)), .int (M (t0 + 2) (((31 + (2 * a3)) + 1).toNatClampNeg))]) rfl hl.1 rfl ⟨⟨Nat.le_of_ble_eq_true rfl, Nat.le_of_ble_eq_true rfl⟩, Nat.le_of_ble_eq_true rfl, Nat.le_of_ble_eq_true rfl, Nat.le_of_ble_eq_true rfl⟩ dX6_smokyAt_44 (fun H locs hw => ?_)
        refine lv_if_eq (tgt := 54) hx hb dX6_smokyAt_47 (by decide) (fun c11 => ?_) (fun c11 => ?_)
        · have hf := cl_yes c11 hf
          refine lv_iconst (v := 0) hx hb dX6_smokyAt_54 (by decide) ?_
          exact k_X6_smokyAt_55 C ih M t0 a1 a3 0 _ hf _ _ _ ht0 hw (lv_sub hl [0, 1, 3] rfl)
        · have hf := cl_no c11 hf
          exact k_X6_smokyAt_50 C ih M t0 a1 a3 _ hf _ _ _ ht0 hw (lv_sub hl [0, 1, 3] rfl)
def f_X6_smokyAt (M : cl_M) (t0 : Nat) (a1 : Int32) : Option (Int32) := f_X6_smokyAt_4 cl_F M t0 a1 0 0
set_option maxHeartbeats 4000000 in
set_option maxRecDepth 100000 in
theorem k_X6_smokyAt {p : Program} {l : Launch} {e : Env} {s : State} {m : MethodId} {args : Array Value} {below : List Frame} {meth : Method} {c : Code} {dd : cl_D} {b : Nat} (C : cl_C p l s m args meth c cX6_smokyAt RX6 4 (some .int) dd b) : ∀ (M : cl_M) (t0 : Nat) (a1 : Int32) (r : Int32), f_X6_smokyAt M t0 a1 = some r → ∀ (H : Heap) (locs : List Loc) (ls : Array Slot), cl_sh dd t0 = 6 → cl_H dd b M s H locs → lv_has ls 4 [(0, .ref (b + t0)), (1, .int a1)] → W p l e { frames := 1, cells := 0, slots := 0, locals := 22 } s m args below meth c H locs 0 0 (cl_Zi below args s dd b r M) (F0 m 0 ls []) := by
  have hx := C.1
  have hb := C.2.1
  have hlt := C.2.2.2.2.2.2.2.2.2.2
  have hRr := C.2.2.2.2.2.2.2.2.2.1
  intro M t0 a1 r hf H locs ls ht0 hw hl
  unfold f_X6_smokyAt at hf
  refine lv_iconst (v := 0) hx hb dX6_smokyAt_0 (by decide) ?_
  refine lv_istore_n (lv' := [(2, .int 0), (0, .ref (b + t0)), (1, .int a1)]) hx hb dX6_smokyAt_1 rfl hl (by decide) rfl (fun ls hl => ?_)
  refine lv_iconst (v := 0) hx hb dX6_smokyAt_2 (by decide) ?_
  refine lv_istore_n (lv' := [(3, .int 0), (2, .int 0), (0, .ref (b + t0)), (1, .int a1)]) hx hb dX6_smokyAt_3 rfl hl (by decide) rfl (fun ls hl => ?_)
  exact k_X6_smokyAt_4 C cl_F M t0 a1 0 0 _ hf _ _ _ ht0 hw (lv_sub hl [2, 3, 1, 0] rfl)
set_option maxRecDepth 100000 in
theorem c_X6_smokyAt {l : Launch} {dd : cl_D} {b : Nat} (hlt : l.stackTraces = false) {M : cl_M} {t0 : Nat} {a1 : Int32}  {r : Int32} (ht0 : cl_sh dd t0 = 6) (h : f_X6_smokyAt M t0 a1 = some r) : cl_Mi l dd b yX6_smokyAt cX6_smokyAt 4 (some .int) 1 22 [.ref (b + t0), .int a1] M r M :=
  cl_of hlt (by decide) (Nat.le_of_ble_eq_true rfl) (fun p e s m below meth c ls C hw hl => k_X6_smokyAt C M t0 a1 r h _ _ _ ht0 hw (lv_sub hl [0, 1] rfl))
theorem cy_X6_smokyAt : cl_cy yX6_smokyAt cX6_smokyAt 4 (some .int) 1 := ⟨in_ClothesLineModel, cd_X6_smokyAt, by decide +kernel, by decide +kernel, by decide +kernel⟩
theorem vy_X6_smokyAt : cl_vy yX6_smokyAt := ⟨im_X6_smokyAt, se_X6_smokyAt⟩
def f_X6_many_4 : Nat → cl_M → Int32 → Int32 → Int32 → Option (Int32)
  | 0, _, _, _, _ => none
  | k + 1, M, a0, a1, a2 => if 24 ≤ a2 then some a1 else cl_let (a1 + ((a0 >>> (a2 &&& 31)) &&& 1)) (fun v2 => cl_let (a2 + 1) (fun v3 => f_X6_many_4 k M a0 v2 v3))
set_option maxHeartbeats 4000000 in
set_option maxRecDepth 100000 in
theorem k_X6_many_4 {p : Program} {l : Launch} {e : Env} {s : State} {m : MethodId} {args : Array Value} {below : List Frame} {meth : Method} {c : Code} {dd : cl_D} {b : Nat} (C : cl_C p l s m args meth c cX6_many RX6 3 (some .int) dd b) : ∀ (k : Nat), ∀ (M : cl_M) (a0 : Int32) (a1 : Int32) (a2 : Int32) (r : Int32), f_X6_many_4 k M a0 a1 a2 = some r → ∀ (H : Heap) (locs : List Loc) (ls : Array Slot), cl_H dd b M s H locs → lv_has ls 3 [(0, .int a0), (1, .int a1), (2, .int a2)] → W p l e { frames := 0, cells := 0, slots := 0, locals := 0 } s m args below meth c H locs 0 0 (cl_Zi below args s dd b r M) (F0 m 4 ls []) := by
  have hx := C.1
  have hb := C.2.1
  have hlt := C.2.2.2.2.2.2.2.2.2.2
  have hRr := C.2.2.2.2.2.2.2.2.2.1
  intro k
  induction k with
  | zero =>
    intro M a0 a1 a2 r hf H locs ls hw hl
    rw [f_X6_many_4] at hf
    cases hf
  | succ k ih =>
    intro M a0 a1 a2 r hf H locs ls hw hl
    rw [f_X6_many_4] at hf
    refine lv_iload_n hx hb dX6_many_4 rfl (lv_at hl 2 rfl) ?_
    refine lv_bipush (v := 24) hx hb dX6_many_5 (by decide) ?_
    refine lv_icmp_ge (tgt := 24) hx hb dX6_many_7 (by decide) (fun c1 => ?_) (fun c1 => ?_)
    · have hf := cl_yes c1 hf
      refine lv_iload_n hx hb dX6_many_24 rfl (lv_at hl 1 rfl) ?_
      obtain rfl := Option.some.inj hf
      exact cr_reti C hw dX6_many_25
    · have hf := cl_no c1 hf
      refine lv_iload_n hx hb dX6_many_10 rfl (lv_at hl 1 rfl) ?_
      refine lv_iload_n hx hb dX6_many_11 rfl (lv_at hl 0 rfl) ?_
      refine lv_iload_n hx hb dX6_many_12 rfl (lv_at hl 2 rfl) ?_
      refine lv_ishr hx hb dX6_many_13 ?_
      refine lv_iconst (v := 1) hx hb dX6_many_14 (by decide) ?_
      refine lv_iand hx hb dX6_many_15 ?_
      refine lv_iadd hx hb dX6_many_16 ?_
      obtain ⟨v2, ev2, hf⟩ := cl_let_e hf
      refine cr_top ev2 ?_
      refine lv_istore_n (lv' := [(1, .int v2), (0, .int a0), (2, .int a2)]) hx hb dX6_many_17 rfl hl (by decide) rfl (fun ls hl => ?_)
      obtain ⟨v3, ev3, hf⟩ := cl_let_e hf
      refine lv_iinc (v := v3) (lv' := [(2, .int v3), (1, .int v2), (0, .int a0)]) hx hb dX6_many_18 hl (k := 2) rfl (by rw [ev3]; rfl) (by decide) rfl (fun ls hl => ?_)
      refine lv_goto (tgt := 4) hx hb dX6_many_21 (by decide) ?_
      exact ih M a0 v2 v3 _ hf _ _ _ hw (lv_sub hl [2, 1, 0] rfl)
def f_X6_many (M : cl_M) (a0 : Int32) : Option (Int32) := f_X6_many_4 cl_F M a0 0 0
set_option maxHeartbeats 4000000 in
set_option maxRecDepth 100000 in
theorem k_X6_many {p : Program} {l : Launch} {e : Env} {s : State} {m : MethodId} {args : Array Value} {below : List Frame} {meth : Method} {c : Code} {dd : cl_D} {b : Nat} (C : cl_C p l s m args meth c cX6_many RX6 3 (some .int) dd b) : ∀ (M : cl_M) (a0 : Int32) (r : Int32), f_X6_many M a0 = some r → ∀ (H : Heap) (locs : List Loc) (ls : Array Slot), cl_H dd b M s H locs → lv_has ls 3 [(0, .int a0)] → W p l e { frames := 0, cells := 0, slots := 0, locals := 0 } s m args below meth c H locs 0 0 (cl_Zi below args s dd b r M) (F0 m 0 ls []) := by
  have hx := C.1
  have hb := C.2.1
  have hlt := C.2.2.2.2.2.2.2.2.2.2
  have hRr := C.2.2.2.2.2.2.2.2.2.1
  intro M a0 r hf H locs ls hw hl
  unfold f_X6_many at hf
  refine lv_iconst (v := 0) hx hb dX6_many_0 (by decide) ?_
  refine lv_istore_n (lv' := [(1, .int 0), (0, .int a0)]) hx hb dX6_many_1 rfl hl (by decide) rfl (fun ls hl => ?_)
  refine lv_iconst (v := 0) hx hb dX6_many_2 (by decide) ?_
  refine lv_istore_n (lv' := [(2, .int 0), (1, .int 0), (0, .int a0)]) hx hb dX6_many_3 rfl hl (by decide) rfl (fun ls hl => ?_)
  exact k_X6_many_4 C cl_F M a0 0 0 _ hf _ _ _ hw (lv_sub hl [2, 1, 0] rfl)
set_option maxRecDepth 100000 in
theorem c_X6_many {l : Launch} {dd : cl_D} {b : Nat} (hlt : l.stackTraces = false) {M : cl_M} {a0 : Int32}  {r : Int32} (h : f_X6_many M a0 = some r) : cl_Mi l dd b yX6_many cX6_many 3 (some .int) 0 0 [.int a0] M r M :=
  cl_of hlt (by decide) (Nat.le_of_ble_eq_true rfl) (fun p e s m below meth c ls C hw hl => k_X6_many C M a0 r h _ _ _ hw (lv_sub hl [0] rfl))
theorem cy_X6_many : cl_cy yX6_many cX6_many 3 (some .int) 1 := ⟨in_ClothesLineModel, cd_X6_many, by decide +kernel, by decide +kernel, by decide +kernel⟩
def f_X6_has_14 (M : cl_M) (z0 : Int32) : Option (Int32) := if cl_bz z0 = true then some z0 else none
set_option maxHeartbeats 4000000 in
set_option maxRecDepth 100000 in
theorem k_X6_has_14 {p : Program} {l : Launch} {e : Env} {s : State} {m : MethodId} {args : Array Value} {below : List Frame} {meth : Method} {c : Code} {dd : cl_D} {b : Nat} (C : cl_C p l s m args meth c cX6_has RX6 2 (some .boolean) dd b) : ∀ (M : cl_M) (z0 : Int32) (r : Int32), f_X6_has_14 M z0 = some r → ∀ (H : Heap) (locs : List Loc) (ls : Array Slot), cl_H dd b M s H locs → lv_has ls 2 [] → W p l e { frames := 0, cells := 0, slots := 0, locals := 0 } s m args below meth c H locs 0 0 (cl_Zi below args s dd b r M) (F0 m 14 ls [.int z0]) := by
  have hx := C.1
  have hb := C.2.1
  have hlt := C.2.2.2.2.2.2.2.2.2.2
  have hRr := C.2.2.2.2.2.2.2.2.2.1
  intro M z0 r hf H locs ls hw hl
  unfold f_X6_has_14 at hf
  obtain ⟨q2, hf⟩ := cl_grd hf
  obtain rfl := Option.some.inj hf
  exact cr_retz C hw q2 dX6_has_14
def f_X6_has (M : cl_M) (a0 : Int32) (a1 : Int32) : Option (Int32) := if ((a0 >>> (a1 &&& 31)) &&& 1) = 1 then f_X6_has_14 M 1 else f_X6_has_14 M 0
set_option maxHeartbeats 4000000 in
set_option maxRecDepth 100000 in
theorem k_X6_has {p : Program} {l : Launch} {e : Env} {s : State} {m : MethodId} {args : Array Value} {below : List Frame} {meth : Method} {c : Code} {dd : cl_D} {b : Nat} (C : cl_C p l s m args meth c cX6_has RX6 2 (some .boolean) dd b) : ∀ (M : cl_M) (a0 : Int32) (a1 : Int32) (r : Int32), f_X6_has M a0 a1 = some r → ∀ (H : Heap) (locs : List Loc) (ls : Array Slot), cl_H dd b M s H locs → lv_has ls 2 [(0, .int a0), (1, .int a1)] → W p l e { frames := 0, cells := 0, slots := 0, locals := 0 } s m args below meth c H locs 0 0 (cl_Zi below args s dd b r M) (F0 m 0 ls []) := by
  have hx := C.1
  have hb := C.2.1
  have hlt := C.2.2.2.2.2.2.2.2.2.2
  have hRr := C.2.2.2.2.2.2.2.2.2.1
  intro M a0 a1 r hf H locs ls hw hl
  unfold f_X6_has at hf
  refine lv_iload_n hx hb dX6_has_0 rfl (lv_at hl 0 rfl) ?_
  refine lv_iload_n hx hb dX6_has_1 rfl (lv_at hl 1 rfl) ?_
  refine lv_ishr hx hb dX6_has_2 ?_
  refine lv_iconst (v := 1) hx hb dX6_has_3 (by decide) ?_
  refine lv_iand hx hb dX6_has_4 ?_
  refine lv_iconst (v := 1) hx hb dX6_has_5 (by decide) ?_
  refine lv_icmp_ne (tgt := 13) hx hb dX6_has_6 (by decide) (fun c1 => ?_) (fun c1 => ?_)
  · have hf := cl_no c1 hf
    refine lv_iconst (v := 0) hx hb dX6_has_13 (by decide) ?_
    exact k_X6_has_14 C M 0 _ hf _ _ _ hw (lv_sub hl [] rfl)
  · have hf := cl_yes c1 hf
    refine lv_iconst (v := 1) hx hb dX6_has_9 (by decide) ?_
    refine lv_goto (tgt := 14) hx hb dX6_has_10 (by decide) ?_
    exact k_X6_has_14 C M 1 _ hf _ _ _ hw (lv_sub hl [] rfl)
set_option maxRecDepth 100000 in
theorem c_X6_has {l : Launch} {dd : cl_D} {b : Nat} (hlt : l.stackTraces = false) {M : cl_M} {a0 : Int32} {a1 : Int32}  {r : Int32} (h : f_X6_has M a0 a1 = some r) : cl_Mi l dd b yX6_has cX6_has 2 (some .boolean) 0 0 [.int a0, .int a1] M r M :=
  cl_of hlt (by decide) (Nat.le_of_ble_eq_true rfl) (fun p e s m below meth c ls C hw hl => k_X6_has C M a0 a1 r h _ _ _ hw (lv_sub hl [0, 1] rfl))
theorem cy_X6_has : cl_cy yX6_has cX6_has 2 (some .boolean) 2 := ⟨in_ClothesLineModel, cd_X6_has, by decide +kernel, by decide +kernel, by decide +kernel⟩
def f_X6_of (M : cl_M) (t0 : Nat) (a1 : Int32) (a2 : Int32) : Option (Int32) := if cl_inb ((39 + (11 * a1)) + a2) 149 = true then some (M (t0 + 2) (((39 + (11 * a1)) + a2).toNatClampNeg)) else none
set_option maxHeartbeats 4000000 in
set_option maxRecDepth 100000 in
theorem k_X6_of {p : Program} {l : Launch} {e : Env} {s : State} {m : MethodId} {args : Array Value} {below : List Frame} {meth : Method} {c : Code} {dd : cl_D} {b : Nat} (C : cl_C p l s m args meth c cX6_of RX6 3 (some .int) dd b) : ∀ (M : cl_M) (t0 : Nat) (a1 : Int32) (a2 : Int32) (r : Int32), f_X6_of M t0 a1 a2 = some r → ∀ (H : Heap) (locs : List Loc) (ls : Array Slot), cl_sh dd t0 = 6 → cl_H dd b M s H locs → lv_has ls 3 [(0, .ref (b + t0)), (1, .int a1), (2, .int a2)] → W p l e { frames := 0, cells := 0, slots := 0, locals := 0 } s m args below meth c H locs 0 0 (cl_Zi below args s dd b r M) (F0 m 0 ls []) := by
  have hx := C.1
  have hb := C.2.1
  have hlt := C.2.2.2.2.2.2.2.2.2.2
  have hRr := C.2.2.2.2.2.2.2.2.2.1
  intro M t0 a1 a2 r hf H locs ls ht0 hw hl
  unfold f_X6_of at hf
  refine lv_aload_n hx hb dX6_of_0 rfl (lv_at hl 0 rfl) ?_
  refine fg_X6_17 C hw ht0 dX6_of_1 ?_
  refine lv_bipush (v := 39) hx hb dX6_of_4 (by decide) ?_
  refine lv_bipush (v := 11) hx hb dX6_of_6 (by decide) ?_
  refine lv_iload_n hx hb dX6_of_8 rfl (lv_at hl 1 rfl) ?_
  refine lv_imul hx hb dX6_of_9 ?_
  refine lv_iadd hx hb dX6_of_10 ?_
  refine lv_iload_n hx hb dX6_of_11 rfl (lv_at hl 2 rfl) ?_
  refine lv_iadd hx hb dX6_of_12 ?_
  obtain ⟨q1, hf⟩ := cl_grd hf
  refine cr_iald C hw (sh_6_5 ht0).1 (sh_6_5 ht0).2 q1 (k := ((39 + (11 * a1)) + a2).toNatClampNeg) rfl dX6_of_13 ?_
  obtain rfl := Option.some.inj hf
  exact cr_reti C hw dX6_of_14
set_option maxRecDepth 100000 in
theorem c_X6_of {l : Launch} {dd : cl_D} {b : Nat} (hlt : l.stackTraces = false) {M : cl_M} {t0 : Nat} {a1 : Int32} {a2 : Int32}  {r : Int32} (ht0 : cl_sh dd t0 = 6) (h : f_X6_of M t0 a1 a2 = some r) : cl_Mi l dd b yX6_of cX6_of 3 (some .int) 0 0 [.ref (b + t0), .int a1, .int a2] M r M :=
  cl_of hlt (by decide) (Nat.le_of_ble_eq_true rfl) (fun p e s m below meth c ls C hw hl => k_X6_of C M t0 a1 a2 r h _ _ _ ht0 hw (lv_sub hl [0, 1, 2] rfl))
theorem cy_X6_of : cl_cy yX6_of cX6_of 3 (some .int) 2 := ⟨in_ClothesLineModel, cd_X6_of, by decide +kernel, by decide +kernel, by decide +kernel⟩
theorem vy_X6_of : cl_vy yX6_of := ⟨im_X6_of, se_X6_of⟩
def f_X6_put (M : cl_M) (t0 : Nat) (a1 : Int32) (a2 : Int32) (a3 : Int32) : Option (cl_M) := if cl_inb ((39 + (11 * a1)) + a2) 149 = true then cl_let (cl_ms M (t0 + 2) ((39 + (11 * a1)) + a2).toNatClampNeg a3) (fun M2 => some M2) else none
set_option maxHeartbeats 4000000 in
set_option maxRecDepth 100000 in
theorem k_X6_put {p : Program} {l : Launch} {e : Env} {s : State} {m : MethodId} {args : Array Value} {below : List Frame} {meth : Method} {c : Code} {dd : cl_D} {b : Nat} (C : cl_C p l s m args meth c cX6_put RX6 4 none dd b) : ∀ (M : cl_M) (t0 : Nat) (a1 : Int32) (a2 : Int32) (a3 : Int32) (M' : cl_M), f_X6_put M t0 a1 a2 a3 = some M' → ∀ (H : Heap) (locs : List Loc) (ls : Array Slot), cl_sh dd t0 = 6 → cl_H dd b M s H locs → lv_has ls 4 [(0, .ref (b + t0)), (1, .int a1), (2, .int a2), (3, .int a3)] → W p l e { frames := 0, cells := 0, slots := 0, locals := 0 } s m args below meth c H locs 0 0 (cl_Zv below args s dd b M') (F0 m 0 ls []) := by
  have hx := C.1
  have hb := C.2.1
  have hlt := C.2.2.2.2.2.2.2.2.2.2
  have hRr := C.2.2.2.2.2.2.2.2.2.1
  intro M t0 a1 a2 a3 M' hf H locs ls ht0 hw hl
  unfold f_X6_put at hf
  refine lv_aload_n hx hb dX6_put_0 rfl (lv_at hl 0 rfl) ?_
  refine fg_X6_17 C hw ht0 dX6_put_1 ?_
  refine lv_bipush (v := 39) hx hb dX6_put_4 (by decide) ?_
  refine lv_bipush (v := 11) hx hb dX6_put_6 (by decide) ?_
  refine lv_iload_n hx hb dX6_put_8 rfl (lv_at hl 1 rfl) ?_
  refine lv_imul hx hb dX6_put_9 ?_
  refine lv_iadd hx hb dX6_put_10 ?_
  refine lv_iload_n hx hb dX6_put_11 rfl (lv_at hl 2 rfl) ?_
  refine lv_iadd hx hb dX6_put_12 ?_
  refine lv_iload_n hx hb dX6_put_13 rfl (lv_at hl 3 rfl) ?_
  obtain ⟨q1, hf⟩ := cl_grd hf
  obtain ⟨M2, eM2, hf⟩ := cl_let_e hf
  refine cr_iast C hw (sh_6_5 ht0).1 (sh_6_5 ht0).2 q1 (k := ((39 + (11 * a1)) + a2).toNatClampNeg) rfl eM2 dX6_put_14 (fun H locs hw => ?_)
  obtain rfl := Option.some.inj hf
  exact cr_retv C hw dX6_put_15
set_option maxRecDepth 100000 in
theorem c_X6_put {l : Launch} {dd : cl_D} {b : Nat} (hlt : l.stackTraces = false) {M : cl_M} {t0 : Nat} {a1 : Int32} {a2 : Int32} {a3 : Int32}  {M' : cl_M} (ht0 : cl_sh dd t0 = 6) (h : f_X6_put M t0 a1 a2 a3 = some M') : cl_Mv l dd b yX6_put cX6_put 4 none 0 0 [.ref (b + t0), .int a1, .int a2, .int a3] M M' :=
  cl_of hlt (by decide) (Nat.le_of_ble_eq_true rfl) (fun p e s m below meth c ls C hw hl => k_X6_put C M t0 a1 a2 a3 M' h _ _ _ ht0 hw (lv_sub hl [0, 1, 2, 3] rfl))
theorem cy_X6_put : cl_cy yX6_put cX6_put 4 none 3 := ⟨in_ClothesLineModel, cd_X6_put, by decide +kernel, by decide +kernel, by decide +kernel⟩
theorem vy_X6_put : cl_vy yX6_put := ⟨im_X6_put, se_X6_put⟩
def f_X6_isIn_16 (M : cl_M) (z0 : Int32) : Option (Int32) := if cl_bz z0 = true then some z0 else none
set_option maxHeartbeats 4000000 in
set_option maxRecDepth 100000 in
theorem k_X6_isIn_16 {p : Program} {l : Launch} {e : Env} {s : State} {m : MethodId} {args : Array Value} {below : List Frame} {meth : Method} {c : Code} {dd : cl_D} {b : Nat} (C : cl_C p l s m args meth c cX6_isIn RX6 3 (some .boolean) dd b) : ∀ (M : cl_M) (z0 : Int32) (r : Int32), f_X6_isIn_16 M z0 = some r → ∀ (H : Heap) (locs : List Loc) (ls : Array Slot), cl_H dd b M s H locs → lv_has ls 3 [] → W p l e { frames := 1, cells := 0, slots := 0, locals := 22 } s m args below meth c H locs 0 0 (cl_Zi below args s dd b r M) (F0 m 16 ls [.int z0]) := by
  have hx := C.1
  have hb := C.2.1
  have hlt := C.2.2.2.2.2.2.2.2.2.2
  have hRr := C.2.2.2.2.2.2.2.2.2.1
  intro M z0 r hf H locs ls hw hl
  unfold f_X6_isIn_16 at hf
  obtain ⟨q4, hf⟩ := cl_grd hf
  obtain rfl := Option.some.inj hf
  exact cr_retz C hw q4 dX6_isIn_16
def f_X6_isIn (M : cl_M) (t0 : Nat) (a1 : Int32) (a2 : Int32) : Option (Int32) := (f_X6_of M t0 a1 6).bind (fun v1 => if v1 = a2 then f_X6_isIn_16 M 1 else f_X6_isIn_16 M 0)
set_option maxHeartbeats 4000000 in
set_option maxRecDepth 100000 in
theorem k_X6_isIn {p : Program} {l : Launch} {e : Env} {s : State} {m : MethodId} {args : Array Value} {below : List Frame} {meth : Method} {c : Code} {dd : cl_D} {b : Nat} (C : cl_C p l s m args meth c cX6_isIn RX6 3 (some .boolean) dd b) : ∀ (M : cl_M) (t0 : Nat) (a1 : Int32) (a2 : Int32) (r : Int32), f_X6_isIn M t0 a1 a2 = some r → ∀ (H : Heap) (locs : List Loc) (ls : Array Slot), cl_sh dd t0 = 6 → cl_H dd b M s H locs → lv_has ls 3 [(0, .ref (b + t0)), (1, .int a1), (2, .int a2)] → W p l e { frames := 1, cells := 0, slots := 0, locals := 22 } s m args below meth c H locs 0 0 (cl_Zi below args s dd b r M) (F0 m 0 ls []) := by
  have hx := C.1
  have hb := C.2.1
  have hlt := C.2.2.2.2.2.2.2.2.2.2
  have hRr := C.2.2.2.2.2.2.2.2.2.1
  intro M t0 a1 a2 r hf H locs ls ht0 hw hl
  unfold f_X6_isIn at hf
  refine lv_aload_n hx hb dX6_isIn_0 rfl (lv_at hl 0 rfl) ?_
  refine lv_iload_n hx hb dX6_isIn_1 rfl (lv_at hl 1 rfl) ?_
  refine lv_bipush (v := 6) hx hb dX6_isIn_2 (by decide) ?_
  obtain ⟨v1, e2, hf⟩ := cl_bind_e hf
  refine cr_Vi C hw (c_X6_of hlt ht0 e2) cy_X6_of vy_X6_of ml_X6_81 (cl_lt ht0 (by decide)) (cl_e6 ht0) rfl rfl (As := [.int a1, .int 6]) rfl hl.1 rfl ⟨⟨Nat.le_of_ble_eq_true rfl, Nat.le_of_ble_eq_true rfl⟩, Nat.le_of_ble_eq_true rfl, Nat.le_of_ble_eq_true rfl, Nat.le_of_ble_eq_true rfl⟩ dX6_isIn_4 (fun H locs hw => ?_)
  refine lv_iload_n hx hb dX6_isIn_7 rfl (lv_at hl 2 rfl) ?_
  refine lv_icmp_ne (tgt := 15) hx hb dX6_isIn_8 (by decide) (fun c3 => ?_) (fun c3 => ?_)
  · have hf := cl_no c3 hf
    refine lv_iconst (v := 0) hx hb dX6_isIn_15 (by decide) ?_
    exact k_X6_isIn_16 C M 0 _ hf _ _ _ hw (lv_sub hl [] rfl)
  · have hf := cl_yes c3 hf
    refine lv_iconst (v := 1) hx hb dX6_isIn_11 (by decide) ?_
    refine lv_goto (tgt := 16) hx hb dX6_isIn_12 (by decide) ?_
    exact k_X6_isIn_16 C M 1 _ hf _ _ _ hw (lv_sub hl [] rfl)
set_option maxRecDepth 100000 in
theorem c_X6_isIn {l : Launch} {dd : cl_D} {b : Nat} (hlt : l.stackTraces = false) {M : cl_M} {t0 : Nat} {a1 : Int32} {a2 : Int32}  {r : Int32} (ht0 : cl_sh dd t0 = 6) (h : f_X6_isIn M t0 a1 a2 = some r) : cl_Mi l dd b yX6_isIn cX6_isIn 3 (some .boolean) 1 22 [.ref (b + t0), .int a1, .int a2] M r M :=
  cl_of hlt (by decide) (Nat.le_of_ble_eq_true rfl) (fun p e s m below meth c ls C hw hl => k_X6_isIn C M t0 a1 a2 r h _ _ _ ht0 hw (lv_sub hl [0, 1, 2] rfl))
theorem cy_X6_isIn : cl_cy yX6_isIn cX6_isIn 3 (some .boolean) 2 := ⟨in_ClothesLineModel, cd_X6_isIn, by decide +kernel, by decide +kernel, by decide +kernel⟩
theorem vy_X6_isIn : cl_vy yX6_isIn := ⟨im_X6_isIn, se_X6_isIn⟩
def f_X6_spotsFrom (M : cl_M) (t0 : Nat) (a1 : Int32) (a2 : Int32) : Option (Int32) := (f_X6_of M t0 a1 0).bind (fun v1 => some (((1 <<< (v1 &&& 31)) - 1) <<< (a2 &&& 31)))
set_option maxHeartbeats 4000000 in
set_option maxRecDepth 100000 in
theorem k_X6_spotsFrom {p : Program} {l : Launch} {e : Env} {s : State} {m : MethodId} {args : Array Value} {below : List Frame} {meth : Method} {c : Code} {dd : cl_D} {b : Nat} (C : cl_C p l s m args meth c cX6_spotsFrom RX6 3 (some .int) dd b) : ∀ (M : cl_M) (t0 : Nat) (a1 : Int32) (a2 : Int32) (r : Int32), f_X6_spotsFrom M t0 a1 a2 = some r → ∀ (H : Heap) (locs : List Loc) (ls : Array Slot), cl_sh dd t0 = 6 → cl_H dd b M s H locs → lv_has ls 3 [(0, .ref (b + t0)), (1, .int a1), (2, .int a2)] → W p l e { frames := 1, cells := 0, slots := 0, locals := 22 } s m args below meth c H locs 0 0 (cl_Zi below args s dd b r M) (F0 m 0 ls []) := by
  have hx := C.1
  have hb := C.2.1
  have hlt := C.2.2.2.2.2.2.2.2.2.2
  have hRr := C.2.2.2.2.2.2.2.2.2.1
  intro M t0 a1 a2 r hf H locs ls ht0 hw hl
  unfold f_X6_spotsFrom at hf
  refine lv_iconst (v := 1) hx hb dX6_spotsFrom_0 (by decide) ?_
  refine lv_aload_n hx hb dX6_spotsFrom_1 rfl (lv_at hl 0 rfl) ?_
  refine lv_iload_n hx hb dX6_spotsFrom_2 rfl (lv_at hl 1 rfl) ?_
  refine lv_iconst (v := 0) hx hb dX6_spotsFrom_3 (by decide) ?_
  obtain ⟨v1, e2, hf⟩ := cl_bind_e hf
  refine cr_Vi C hw (c_X6_of hlt ht0 e2) cy_X6_of vy_X6_of ml_X6_81 (cl_lt ht0 (by decide)) (cl_e6 ht0) rfl rfl (As := [.int a1, .int 0]) rfl hl.1 rfl ⟨⟨Nat.le_of_ble_eq_true rfl, Nat.le_of_ble_eq_true rfl⟩, Nat.le_of_ble_eq_true rfl, Nat.le_of_ble_eq_true rfl, Nat.le_of_ble_eq_true rfl⟩ dX6_spotsFrom_4 (fun H locs hw => ?_)
  refine lv_ishl hx hb dX6_spotsFrom_7 ?_
  refine lv_iconst (v := 1) hx hb dX6_spotsFrom_8 (by decide) ?_
  refine lv_isub hx hb dX6_spotsFrom_9 ?_
  refine lv_iload_n hx hb dX6_spotsFrom_10 rfl (lv_at hl 2 rfl) ?_
  refine lv_ishl hx hb dX6_spotsFrom_11 ?_
  obtain rfl := Option.some.inj hf
  exact cr_reti C hw dX6_spotsFrom_12
set_option maxRecDepth 100000 in
theorem c_X6_spotsFrom {l : Launch} {dd : cl_D} {b : Nat} (hlt : l.stackTraces = false) {M : cl_M} {t0 : Nat} {a1 : Int32} {a2 : Int32}  {r : Int32} (ht0 : cl_sh dd t0 = 6) (h : f_X6_spotsFrom M t0 a1 a2 = some r) : cl_Mi l dd b yX6_spotsFrom cX6_spotsFrom 3 (some .int) 1 22 [.ref (b + t0), .int a1, .int a2] M r M :=
  cl_of hlt (by decide) (Nat.le_of_ble_eq_true rfl) (fun p e s m below meth c ls C hw hl => k_X6_spotsFrom C M t0 a1 a2 r h _ _ _ ht0 hw (lv_sub hl [0, 1, 2] rfl))
theorem cy_X6_spotsFrom : cl_cy yX6_spotsFrom cX6_spotsFrom 3 (some .int) 2 := ⟨in_ClothesLineModel, cd_X6_spotsFrom, by decide +kernel, by decide +kernel, by decide +kernel⟩
theorem vy_X6_spotsFrom : cl_vy yX6_spotsFrom := ⟨im_X6_spotsFrom, se_X6_spotsFrom⟩
def f_X6_spotsOf_25 (M : cl_M) (z0 : Int32) : Option (Int32) := some z0
set_option maxHeartbeats 4000000 in
set_option maxRecDepth 100000 in
theorem k_X6_spotsOf_25 {p : Program} {l : Launch} {e : Env} {s : State} {m : MethodId} {args : Array Value} {below : List Frame} {meth : Method} {c : Code} {dd : cl_D} {b : Nat} (C : cl_C p l s m args meth c cX6_spotsOf RX6 2 (some .int) dd b) : ∀ (M : cl_M) (z0 : Int32) (r : Int32), f_X6_spotsOf_25 M z0 = some r → ∀ (H : Heap) (locs : List Loc) (ls : Array Slot), cl_H dd b M s H locs → lv_has ls 2 [] → W p l e { frames := 2, cells := 0, slots := 0, locals := 44 } s m args below meth c H locs 0 0 (cl_Zi below args s dd b r M) (F0 m 25 ls [.int z0]) := by
  have hx := C.1
  have hb := C.2.1
  have hlt := C.2.2.2.2.2.2.2.2.2.2
  have hRr := C.2.2.2.2.2.2.2.2.2.1
  intro M z0 r hf H locs ls hw hl
  unfold f_X6_spotsOf_25 at hf
  obtain rfl := Option.some.inj hf
  exact cr_reti C hw dX6_spotsOf_25
def f_X6_spotsOf (M : cl_M) (t0 : Nat) (a1 : Int32) : Option (Int32) := (f_X6_isIn M t0 a1 1).bind (fun v1 => if v1 = 0 then f_X6_spotsOf_25 M 0 else (f_X6_of M t0 a1 7).bind (fun v4 => (f_X6_spotsFrom M t0 a1 v4).bind (fun v6 => f_X6_spotsOf_25 M v6)))
set_option maxHeartbeats 4000000 in
set_option maxRecDepth 100000 in
theorem k_X6_spotsOf {p : Program} {l : Launch} {e : Env} {s : State} {m : MethodId} {args : Array Value} {below : List Frame} {meth : Method} {c : Code} {dd : cl_D} {b : Nat} (C : cl_C p l s m args meth c cX6_spotsOf RX6 2 (some .int) dd b) : ∀ (M : cl_M) (t0 : Nat) (a1 : Int32) (r : Int32), f_X6_spotsOf M t0 a1 = some r → ∀ (H : Heap) (locs : List Loc) (ls : Array Slot), cl_sh dd t0 = 6 → cl_H dd b M s H locs → lv_has ls 2 [(0, .ref (b + t0)), (1, .int a1)] → W p l e { frames := 2, cells := 0, slots := 0, locals := 44 } s m args below meth c H locs 0 0 (cl_Zi below args s dd b r M) (F0 m 0 ls []) := by
  have hx := C.1
  have hb := C.2.1
  have hlt := C.2.2.2.2.2.2.2.2.2.2
  have hRr := C.2.2.2.2.2.2.2.2.2.1
  intro M t0 a1 r hf H locs ls ht0 hw hl
  unfold f_X6_spotsOf at hf
  refine lv_aload_n hx hb dX6_spotsOf_0 rfl (lv_at hl 0 rfl) ?_
  refine lv_iload_n hx hb dX6_spotsOf_1 rfl (lv_at hl 1 rfl) ?_
  refine lv_iconst (v := 1) hx hb dX6_spotsOf_2 (by decide) ?_
  obtain ⟨v1, e2, hf⟩ := cl_bind_e hf
  refine cr_Vi C hw (c_X6_isIn hlt ht0 e2) cy_X6_isIn vy_X6_isIn ml_X6_84 (cl_lt ht0 (by decide)) (cl_e6 ht0) rfl rfl (As := [.int a1, .int 1]) rfl hl.1 rfl ⟨⟨Nat.le_of_ble_eq_true rfl, Nat.le_of_ble_eq_true rfl⟩, Nat.le_of_ble_eq_true rfl, Nat.le_of_ble_eq_true rfl, Nat.le_of_ble_eq_true rfl⟩ dX6_spotsOf_3 (fun H locs hw => ?_)
  refine lv_if_eq (tgt := 24) hx hb dX6_spotsOf_6 (by decide) (fun c3 => ?_) (fun c3 => ?_)
  · have hf := cl_yes c3 hf
    refine lv_iconst (v := 0) hx hb dX6_spotsOf_24 (by decide) ?_
    exact k_X6_spotsOf_25 C M 0 _ hf _ _ _ hw (lv_sub hl [] rfl)
  · have hf := cl_no c3 hf
    refine lv_aload_n hx hb dX6_spotsOf_9 rfl (lv_at hl 0 rfl) ?_
    refine lv_iload_n hx hb dX6_spotsOf_10 rfl (lv_at hl 1 rfl) ?_
    refine lv_aload_n hx hb dX6_spotsOf_11 rfl (lv_at hl 0 rfl) ?_
    refine lv_iload_n hx hb dX6_spotsOf_12 rfl (lv_at hl 1 rfl) ?_
    refine lv_bipush (v := 7) hx hb dX6_spotsOf_13 (by decide) ?_
    obtain ⟨v4, e5, hf⟩ := cl_bind_e hf
    refine cr_Vi C hw (c_X6_of hlt ht0 e5) cy_X6_of vy_X6_of ml_X6_81 (cl_lt ht0 (by decide)) (cl_e6 ht0) rfl rfl (As := [.int a1, .int 7]) rfl hl.1 rfl ⟨⟨Nat.le_of_ble_eq_true rfl, Nat.le_of_ble_eq_true rfl⟩, Nat.le_of_ble_eq_true rfl, Nat.le_of_ble_eq_true rfl, Nat.le_of_ble_eq_true rfl⟩ dX6_spotsOf_15 (fun H locs hw => ?_)
    obtain ⟨v6, e7, hf⟩ := cl_bind_e hf
    refine cr_Vi C hw (c_X6_spotsFrom hlt ht0 e7) cy_X6_spotsFrom vy_X6_spotsFrom ml_X6_88 (cl_lt ht0 (by decide)) (cl_e6 ht0) rfl rfl (As := [.int a1, .int v4]) rfl hl.1 rfl ⟨⟨Nat.le_of_ble_eq_true rfl, Nat.le_of_ble_eq_true rfl⟩, Nat.le_of_ble_eq_true rfl, Nat.le_of_ble_eq_true rfl, Nat.le_of_ble_eq_true rfl⟩ dX6_spotsOf_18 (fun H locs hw => ?_)
    refine lv_goto (tgt := 25) hx hb dX6_spotsOf_21 (by decide) ?_
    exact k_X6_spotsOf_25 C M v6 _ hf _ _ _ hw (lv_sub hl [] rfl)
set_option maxRecDepth 100000 in
theorem c_X6_spotsOf {l : Launch} {dd : cl_D} {b : Nat} (hlt : l.stackTraces = false) {M : cl_M} {t0 : Nat} {a1 : Int32}  {r : Int32} (ht0 : cl_sh dd t0 = 6) (h : f_X6_spotsOf M t0 a1 = some r) : cl_Mi l dd b yX6_spotsOf cX6_spotsOf 2 (some .int) 2 44 [.ref (b + t0), .int a1] M r M :=
  cl_of hlt (by decide) (Nat.le_of_ble_eq_true rfl) (fun p e s m below meth c ls C hw hl => k_X6_spotsOf C M t0 a1 r h _ _ _ ht0 hw (lv_sub hl [0, 1] rfl))
theorem cy_X6_spotsOf : cl_cy yX6_spotsOf cX6_spotsOf 2 (some .int) 1 := ⟨in_ClothesLineModel, cd_X6_spotsOf, by decide +kernel, by decide +kernel, by decide +kernel⟩
theorem vy_X6_spotsOf : cl_vy yX6_spotsOf := ⟨im_X6_spotsOf, se_X6_spotsOf⟩
def f_X6_taken_30 (r4 : cl_M → Nat → Int32 → Int32 → Int32 → Option (Int32)) (M : cl_M) (t0 : Nat) (a1 : Int32) (a3 : Int32) (z0 : Int32) (z1 : Int32) : Option (Int32) := cl_let (z1 ||| z0) (fun v5 => cl_let (a3 + 1) (fun v6 => r4 M t0 a1 v5 v6))
set_option maxHeartbeats 4000000 in
set_option maxRecDepth 100000 in
theorem k_X6_taken_30 {p : Program} {l : Launch} {e : Env} {s : State} {m : MethodId} {args : Array Value} {below : List Frame} {meth : Method} {c : Code} {dd : cl_D} {b : Nat} (C : cl_C p l s m args meth c cX6_taken RX6 4 (some .int) dd b) {r4 : cl_M → Nat → Int32 → Int32 → Int32 → Option (Int32)} (hr4 : ∀ (M : cl_M) (t0 : Nat) (a1 : Int32) (a2 : Int32) (a3 : Int32) (r : Int32), r4 M t0 a1 a2 a3 = some r → ∀ (H : Heap) (locs : List Loc) (ls : Array Slot), cl_sh dd t0 = 6 → cl_H dd b M s H locs → lv_has ls 4 [(0, .ref (b + t0)), (1, .int a1), (2, .int a2), (3, .int a3)] → W p l e { frames := 3, cells := 0, slots := 0, locals := 65 } s m args below meth c H locs 0 0 (cl_Zi below args s dd b r M) (F0 m 4 ls [])) : ∀ (M : cl_M) (t0 : Nat) (a1 : Int32) (a3 : Int32) (z0 : Int32) (z1 : Int32) (r : Int32), f_X6_taken_30 r4 M t0 a1 a3 z0 z1 = some r → ∀ (H : Heap) (locs : List Loc) (ls : Array Slot), cl_sh dd t0 = 6 → cl_H dd b M s H locs → lv_has ls 4 [(0, .ref (b + t0)), (1, .int a1), (3, .int a3)] → W p l e { frames := 3, cells := 0, slots := 0, locals := 65 } s m args below meth c H locs 0 0 (cl_Zi below args s dd b r M) (F0 m 30 ls [.int z0, .int z1]) := by
  have hx := C.1
  have hb := C.2.1
  have hlt := C.2.2.2.2.2.2.2.2.2.2
  have hRr := C.2.2.2.2.2.2.2.2.2.1
  intro M t0 a1 a3 z0 z1 r hf H locs ls ht0 hw hl
  unfold f_X6_taken_30 at hf
  refine lv_ior hx hb dX6_taken_30 ?_
  obtain ⟨v5, ev5, hf⟩ := cl_let_e hf
  refine cr_top ev5 ?_
  refine lv_istore_n (lv' := [(2, .int v5), (0, .ref (b + t0)), (1, .int a1), (3, .int a3)]) hx hb dX6_taken_31 rfl hl (by decide) rfl (fun ls hl => ?_)
  obtain ⟨v6, ev6, hf⟩ := cl_let_e hf
  refine lv_iinc (v := v6) (lv' := [(3, .int v6), (2, .int v5), (0, .ref (b + t0)), (1, .int a1)]) hx hb dX6_taken_32 hl (k := 3) rfl (by rw [ev6]; rfl) (by decide) rfl (fun ls hl => ?_)
  refine lv_goto (tgt := 4) hx hb dX6_taken_35 (by decide) ?_
  exact hr4 M t0 a1 v5 v6 _ hf _ _ _ ht0 hw (lv_sub hl [2, 3, 1, 0] rfl)
def f_X6_taken_4 : Nat → cl_M → Nat → Int32 → Int32 → Int32 → Option (Int32)
  | 0, _, _, _, _, _ => none
  | k + 1, M, t0, a1, a2, a3 => if (M (t0 + 2) 7) ≤ a3 then some a2 else if a3 = a1 then f_X6_taken_30 (f_X6_taken_4 k) M t0 a1 a3 0 a2 else (f_X6_spotsOf M t0 a3).bind (fun v3 => f_X6_taken_30 (f_X6_taken_4 k) M t0 a1 a3 v3 a2)
set_option maxHeartbeats 4000000 in
set_option maxRecDepth 100000 in
theorem k_X6_taken_4 {p : Program} {l : Launch} {e : Env} {s : State} {m : MethodId} {args : Array Value} {below : List Frame} {meth : Method} {c : Code} {dd : cl_D} {b : Nat} (C : cl_C p l s m args meth c cX6_taken RX6 4 (some .int) dd b) : ∀ (k : Nat), ∀ (M : cl_M) (t0 : Nat) (a1 : Int32) (a2 : Int32) (a3 : Int32) (r : Int32), f_X6_taken_4 k M t0 a1 a2 a3 = some r → ∀ (H : Heap) (locs : List Loc) (ls : Array Slot), cl_sh dd t0 = 6 → cl_H dd b M s H locs → lv_has ls 4 [(0, .ref (b + t0)), (1, .int a1), (2, .int a2), (3, .int a3)] → W p l e { frames := 3, cells := 0, slots := 0, locals := 65 } s m args below meth c H locs 0 0 (cl_Zi below args s dd b r M) (F0 m 4 ls []) := by
  have hx := C.1
  have hb := C.2.1
  have hlt := C.2.2.2.2.2.2.2.2.2.2
  have hRr := C.2.2.2.2.2.2.2.2.2.1
  intro k
  induction k with
  | zero =>
    intro M t0 a1 a2 a3 r hf H locs ls ht0 hw hl
    rw [f_X6_taken_4] at hf
    cases hf
  | succ k ih =>
    intro M t0 a1 a2 a3 r hf H locs ls ht0 hw hl
    rw [f_X6_taken_4] at hf
    refine lv_iload_n hx hb dX6_taken_4 rfl (lv_at hl 3 rfl) ?_
    refine lv_aload_n hx hb dX6_taken_5 rfl (lv_at hl 0 rfl) ?_
    refine fg_X6_17 C hw ht0 dX6_taken_6 ?_
    refine lv_bipush (v := 7) hx hb dX6_taken_9 (by decide) ?_
    refine cr_iald C hw (sh_6_5 ht0).1 (sh_6_5 ht0).2 (by decide) (k := 7) rfl dX6_taken_11 ?_
    refine lv_icmp_ge (tgt := 38) hx hb dX6_taken_12 (by decide) (fun c1 => ?_) (fun c1 => ?_)
    · have hf := cl_yes c1 hf
      refine lv_iload_n hx hb dX6_taken_38 rfl (lv_at hl 2 rfl) ?_
      obtain rfl := Option.some.inj hf
      exact cr_reti C hw dX6_taken_39
    · have hf := cl_no c1 hf
      refine lv_iload_n hx hb dX6_taken_15 rfl (lv_at hl 2 rfl) ?_
      refine lv_iload_n hx hb dX6_taken_16 rfl (lv_at hl 3 rfl) ?_
      refine lv_iload_n hx hb dX6_taken_17 rfl (lv_at hl 1 rfl) ?_
      refine lv_icmp_ne (tgt := 25) hx hb dX6_taken_18 (by decide) (fun c2 => ?_) (fun c2 => ?_)
      · have hf := cl_no c2 hf
        refine lv_aload_n hx hb dX6_taken_25 rfl (lv_at hl 0 rfl) ?_
        refine lv_iload_n hx hb dX6_taken_26 rfl (lv_at hl 3 rfl) ?_
        obtain ⟨v3, e4, hf⟩ := cl_bind_e hf
        refine cr_Vi C hw (c_X6_spotsOf hlt ht0 e4) cy_X6_spotsOf vy_X6_spotsOf ml_X6_91 (cl_lt ht0 (by decide)) (cl_e6 ht0) rfl rfl (As := [.int a3]) rfl hl.1 rfl ⟨⟨Nat.le_of_ble_eq_true rfl, Nat.le_of_ble_eq_true rfl⟩, Nat.le_of_ble_eq_true rfl, Nat.le_of_ble_eq_true rfl, Nat.le_of_ble_eq_true rfl⟩ dX6_taken_27 (fun H locs hw => ?_)
        exact k_X6_taken_30 C ih M t0 a1 a3 v3 a2 _ hf _ _ _ ht0 hw (lv_sub hl [0, 1, 3] rfl)
      · have hf := cl_yes c2 hf
        refine lv_iconst (v := 0) hx hb dX6_taken_21 (by decide) ?_
        refine lv_goto (tgt := 30) hx hb dX6_taken_22 (by decide) ?_
        exact k_X6_taken_30 C ih M t0 a1 a3 0 a2 _ hf _ _ _ ht0 hw (lv_sub hl [0, 1, 3] rfl)
def f_X6_taken (M : cl_M) (t0 : Nat) (a1 : Int32) : Option (Int32) := f_X6_taken_4 cl_F M t0 a1 0 0
set_option maxHeartbeats 4000000 in
set_option maxRecDepth 100000 in
theorem k_X6_taken {p : Program} {l : Launch} {e : Env} {s : State} {m : MethodId} {args : Array Value} {below : List Frame} {meth : Method} {c : Code} {dd : cl_D} {b : Nat} (C : cl_C p l s m args meth c cX6_taken RX6 4 (some .int) dd b) : ∀ (M : cl_M) (t0 : Nat) (a1 : Int32) (r : Int32), f_X6_taken M t0 a1 = some r → ∀ (H : Heap) (locs : List Loc) (ls : Array Slot), cl_sh dd t0 = 6 → cl_H dd b M s H locs → lv_has ls 4 [(0, .ref (b + t0)), (1, .int a1)] → W p l e { frames := 3, cells := 0, slots := 0, locals := 65 } s m args below meth c H locs 0 0 (cl_Zi below args s dd b r M) (F0 m 0 ls []) := by
  have hx := C.1
  have hb := C.2.1
  have hlt := C.2.2.2.2.2.2.2.2.2.2
  have hRr := C.2.2.2.2.2.2.2.2.2.1
  intro M t0 a1 r hf H locs ls ht0 hw hl
  unfold f_X6_taken at hf
  refine lv_iconst (v := 0) hx hb dX6_taken_0 (by decide) ?_
  refine lv_istore_n (lv' := [(2, .int 0), (0, .ref (b + t0)), (1, .int a1)]) hx hb dX6_taken_1 rfl hl (by decide) rfl (fun ls hl => ?_)
  refine lv_iconst (v := 0) hx hb dX6_taken_2 (by decide) ?_
  refine lv_istore_n (lv' := [(3, .int 0), (2, .int 0), (0, .ref (b + t0)), (1, .int a1)]) hx hb dX6_taken_3 rfl hl (by decide) rfl (fun ls hl => ?_)
  exact k_X6_taken_4 C cl_F M t0 a1 0 0 _ hf _ _ _ ht0 hw (lv_sub hl [2, 3, 1, 0] rfl)
set_option maxRecDepth 100000 in
theorem c_X6_taken {l : Launch} {dd : cl_D} {b : Nat} (hlt : l.stackTraces = false) {M : cl_M} {t0 : Nat} {a1 : Int32}  {r : Int32} (ht0 : cl_sh dd t0 = 6) (h : f_X6_taken M t0 a1 = some r) : cl_Mi l dd b yX6_taken cX6_taken 4 (some .int) 3 65 [.ref (b + t0), .int a1] M r M :=
  cl_of hlt (by decide) (Nat.le_of_ble_eq_true rfl) (fun p e s m below meth c ls C hw hl => k_X6_taken C M t0 a1 r h _ _ _ ht0 hw (lv_sub hl [0, 1] rfl))
theorem cy_X6_taken : cl_cy yX6_taken cX6_taken 4 (some .int) 1 := ⟨in_ClothesLineModel, cd_X6_taken, by decide +kernel, by decide +kernel, by decide +kernel⟩
theorem vy_X6_taken : cl_vy yX6_taken := ⟨im_X6_taken, se_X6_taken⟩
def f_X6_weight (M : cl_M) (t0 : Nat) (a1 : Int32) : Option (Int32) := (f_X6_of M t0 a1 1).bind (fun v1 => (f_X6_of M t0 a1 3).bind (fun v3 => some (v1 + (v3 / 10))))
set_option maxHeartbeats 4000000 in
set_option maxRecDepth 100000 in
theorem k_X6_weight {p : Program} {l : Launch} {e : Env} {s : State} {m : MethodId} {args : Array Value} {below : List Frame} {meth : Method} {c : Code} {dd : cl_D} {b : Nat} (C : cl_C p l s m args meth c cX6_weight RX6 2 (some .int) dd b) : ∀ (M : cl_M) (t0 : Nat) (a1 : Int32) (r : Int32), f_X6_weight M t0 a1 = some r → ∀ (H : Heap) (locs : List Loc) (ls : Array Slot), cl_sh dd t0 = 6 → cl_H dd b M s H locs → lv_has ls 2 [(0, .ref (b + t0)), (1, .int a1)] → W p l e { frames := 1, cells := 0, slots := 0, locals := 22 } s m args below meth c H locs 0 0 (cl_Zi below args s dd b r M) (F0 m 0 ls []) := by
  have hx := C.1
  have hb := C.2.1
  have hlt := C.2.2.2.2.2.2.2.2.2.2
  have hRr := C.2.2.2.2.2.2.2.2.2.1
  intro M t0 a1 r hf H locs ls ht0 hw hl
  unfold f_X6_weight at hf
  refine lv_aload_n hx hb dX6_weight_0 rfl (lv_at hl 0 rfl) ?_
  refine lv_iload_n hx hb dX6_weight_1 rfl (lv_at hl 1 rfl) ?_
  refine lv_iconst (v := 1) hx hb dX6_weight_2 (by decide) ?_
  obtain ⟨v1, e2, hf⟩ := cl_bind_e hf
  refine cr_Vi C hw (c_X6_of hlt ht0 e2) cy_X6_of vy_X6_of ml_X6_81 (cl_lt ht0 (by decide)) (cl_e6 ht0) rfl rfl (As := [.int a1, .int 1]) rfl hl.1 rfl ⟨⟨Nat.le_of_ble_eq_true rfl, Nat.le_of_ble_eq_true rfl⟩, Nat.le_of_ble_eq_true rfl, Nat.le_of_ble_eq_true rfl, Nat.le_of_ble_eq_true rfl⟩ dX6_weight_3 (fun H locs hw => ?_)
  refine lv_aload_n hx hb dX6_weight_6 rfl (lv_at hl 0 rfl) ?_
  refine lv_iload_n hx hb dX6_weight_7 rfl (lv_at hl 1 rfl) ?_
  refine lv_iconst (v := 3) hx hb dX6_weight_8 (by decide) ?_
  obtain ⟨v3, e4, hf⟩ := cl_bind_e hf
  refine cr_Vi C hw (c_X6_of hlt ht0 e4) cy_X6_of vy_X6_of ml_X6_81 (cl_lt ht0 (by decide)) (cl_e6 ht0) rfl rfl (As := [.int a1, .int 3]) rfl hl.1 rfl ⟨⟨Nat.le_of_ble_eq_true rfl, Nat.le_of_ble_eq_true rfl⟩, Nat.le_of_ble_eq_true rfl, Nat.le_of_ble_eq_true rfl, Nat.le_of_ble_eq_true rfl⟩ dX6_weight_9 (fun H locs hw => ?_)
  refine lv_bipush (v := 10) hx hb dX6_weight_12 (by decide) ?_
  refine lv_idiv hx hb dX6_weight_14 (by decide) ?_
  refine lv_iadd hx hb dX6_weight_15 ?_
  obtain rfl := Option.some.inj hf
  exact cr_reti C hw dX6_weight_16
set_option maxRecDepth 100000 in
theorem c_X6_weight {l : Launch} {dd : cl_D} {b : Nat} (hlt : l.stackTraces = false) {M : cl_M} {t0 : Nat} {a1 : Int32}  {r : Int32} (ht0 : cl_sh dd t0 = 6) (h : f_X6_weight M t0 a1 = some r) : cl_Mi l dd b yX6_weight cX6_weight 2 (some .int) 1 22 [.ref (b + t0), .int a1] M r M :=
  cl_of hlt (by decide) (Nat.le_of_ble_eq_true rfl) (fun p e s m below meth c ls C hw hl => k_X6_weight C M t0 a1 r h _ _ _ ht0 hw (lv_sub hl [0, 1] rfl))
theorem cy_X6_weight : cl_cy yX6_weight cX6_weight 2 (some .int) 1 := ⟨in_ClothesLineModel, cd_X6_weight, by decide +kernel, by decide +kernel, by decide +kernel⟩
theorem vy_X6_weight : cl_vy yX6_weight := ⟨im_X6_weight, se_X6_weight⟩
def f_X6_holdBy (M : cl_M) (a0 : Int32) (a1 : Int32) : Option (Int32) := some ((20 * a0) + (45 * a1))
set_option maxHeartbeats 4000000 in
set_option maxRecDepth 100000 in
theorem k_X6_holdBy {p : Program} {l : Launch} {e : Env} {s : State} {m : MethodId} {args : Array Value} {below : List Frame} {meth : Method} {c : Code} {dd : cl_D} {b : Nat} (C : cl_C p l s m args meth c cX6_holdBy RX6 2 (some .int) dd b) : ∀ (M : cl_M) (a0 : Int32) (a1 : Int32) (r : Int32), f_X6_holdBy M a0 a1 = some r → ∀ (H : Heap) (locs : List Loc) (ls : Array Slot), cl_H dd b M s H locs → lv_has ls 2 [(0, .int a0), (1, .int a1)] → W p l e { frames := 0, cells := 0, slots := 0, locals := 0 } s m args below meth c H locs 0 0 (cl_Zi below args s dd b r M) (F0 m 0 ls []) := by
  have hx := C.1
  have hb := C.2.1
  have hlt := C.2.2.2.2.2.2.2.2.2.2
  have hRr := C.2.2.2.2.2.2.2.2.2.1
  intro M a0 a1 r hf H locs ls hw hl
  unfold f_X6_holdBy at hf
  refine lv_bipush (v := 20) hx hb dX6_holdBy_0 (by decide) ?_
  refine lv_iload_n hx hb dX6_holdBy_2 rfl (lv_at hl 0 rfl) ?_
  refine lv_imul hx hb dX6_holdBy_3 ?_
  refine lv_bipush (v := 45) hx hb dX6_holdBy_4 (by decide) ?_
  refine lv_iload_n hx hb dX6_holdBy_6 rfl (lv_at hl 1 rfl) ?_
  refine lv_imul hx hb dX6_holdBy_7 ?_
  refine lv_iadd hx hb dX6_holdBy_8 ?_
  obtain rfl := Option.some.inj hf
  exact cr_reti C hw dX6_holdBy_9
set_option maxRecDepth 100000 in
theorem c_X6_holdBy {l : Launch} {dd : cl_D} {b : Nat} (hlt : l.stackTraces = false) {M : cl_M} {a0 : Int32} {a1 : Int32}  {r : Int32} (h : f_X6_holdBy M a0 a1 = some r) : cl_Mi l dd b yX6_holdBy cX6_holdBy 2 (some .int) 0 0 [.int a0, .int a1] M r M :=
  cl_of hlt (by decide) (Nat.le_of_ble_eq_true rfl) (fun p e s m below meth c ls C hw hl => k_X6_holdBy C M a0 a1 r h _ _ _ hw (lv_sub hl [0, 1] rfl))
theorem cy_X6_holdBy : cl_cy yX6_holdBy cX6_holdBy 2 (some .int) 2 := ⟨in_ClothesLineModel, cd_X6_holdBy, by decide +kernel, by decide +kernel, by decide +kernel⟩
def f_X6_hold (M : cl_M) (t0 : Nat) (a1 : Int32) : Option (Int32) := (f_X6_of M t0 a1 8).bind (fun v1 => (f_X6_of M t0 a1 9).bind (fun v3 => (f_X6_holdBy M v1 v3).bind (fun v5 => some v5)))
set_option maxHeartbeats 4000000 in
set_option maxRecDepth 100000 in
theorem k_X6_hold {p : Program} {l : Launch} {e : Env} {s : State} {m : MethodId} {args : Array Value} {below : List Frame} {meth : Method} {c : Code} {dd : cl_D} {b : Nat} (C : cl_C p l s m args meth c cX6_hold RX6 2 (some .int) dd b) : ∀ (M : cl_M) (t0 : Nat) (a1 : Int32) (r : Int32), f_X6_hold M t0 a1 = some r → ∀ (H : Heap) (locs : List Loc) (ls : Array Slot), cl_sh dd t0 = 6 → cl_H dd b M s H locs → lv_has ls 2 [(0, .ref (b + t0)), (1, .int a1)] → W p l e { frames := 1, cells := 0, slots := 0, locals := 22 } s m args below meth c H locs 0 0 (cl_Zi below args s dd b r M) (F0 m 0 ls []) := by
  have hx := C.1
  have hb := C.2.1
  have hlt := C.2.2.2.2.2.2.2.2.2.2
  have hRr := C.2.2.2.2.2.2.2.2.2.1
  intro M t0 a1 r hf H locs ls ht0 hw hl
  unfold f_X6_hold at hf
  refine lv_aload_n hx hb dX6_hold_0 rfl (lv_at hl 0 rfl) ?_
  refine lv_iload_n hx hb dX6_hold_1 rfl (lv_at hl 1 rfl) ?_
  refine lv_bipush (v := 8) hx hb dX6_hold_2 (by decide) ?_
  obtain ⟨v1, e2, hf⟩ := cl_bind_e hf
  refine cr_Vi C hw (c_X6_of hlt ht0 e2) cy_X6_of vy_X6_of ml_X6_81 (cl_lt ht0 (by decide)) (cl_e6 ht0) rfl rfl (As := [.int a1, .int 8]) rfl hl.1 rfl ⟨⟨Nat.le_of_ble_eq_true rfl, Nat.le_of_ble_eq_true rfl⟩, Nat.le_of_ble_eq_true rfl, Nat.le_of_ble_eq_true rfl, Nat.le_of_ble_eq_true rfl⟩ dX6_hold_4 (fun H locs hw => ?_)
  refine lv_aload_n hx hb dX6_hold_7 rfl (lv_at hl 0 rfl) ?_
  refine lv_iload_n hx hb dX6_hold_8 rfl (lv_at hl 1 rfl) ?_
  refine lv_bipush (v := 9) hx hb dX6_hold_9 (by decide) ?_
  obtain ⟨v3, e4, hf⟩ := cl_bind_e hf
  refine cr_Vi C hw (c_X6_of hlt ht0 e4) cy_X6_of vy_X6_of ml_X6_81 (cl_lt ht0 (by decide)) (cl_e6 ht0) rfl rfl (As := [.int a1, .int 9]) rfl hl.1 rfl ⟨⟨Nat.le_of_ble_eq_true rfl, Nat.le_of_ble_eq_true rfl⟩, Nat.le_of_ble_eq_true rfl, Nat.le_of_ble_eq_true rfl, Nat.le_of_ble_eq_true rfl⟩ dX6_hold_11 (fun H locs hw => ?_)
  obtain ⟨v5, e6, hf⟩ := cl_bind_e hf
  refine cr_Si C hw (c_X6_holdBy hlt e6) cy_X6_holdBy st_X6_holdBy ml_X6_94 (As := [.int v1, .int v3]) rfl hl.1 rfl ⟨⟨Nat.le_of_ble_eq_true rfl, Nat.le_of_ble_eq_true rfl⟩, Nat.le_of_ble_eq_true rfl, Nat.le_of_ble_eq_true rfl, Nat.le_of_ble_eq_true rfl⟩ dX6_hold_14 (fun H locs hw => ?_)
  obtain rfl := Option.some.inj hf
  exact cr_reti C hw dX6_hold_17
set_option maxRecDepth 100000 in
theorem c_X6_hold {l : Launch} {dd : cl_D} {b : Nat} (hlt : l.stackTraces = false) {M : cl_M} {t0 : Nat} {a1 : Int32}  {r : Int32} (ht0 : cl_sh dd t0 = 6) (h : f_X6_hold M t0 a1 = some r) : cl_Mi l dd b yX6_hold cX6_hold 2 (some .int) 1 22 [.ref (b + t0), .int a1] M r M :=
  cl_of hlt (by decide) (Nat.le_of_ble_eq_true rfl) (fun p e s m below meth c ls C hw hl => k_X6_hold C M t0 a1 r h _ _ _ ht0 hw (lv_sub hl [0, 1] rfl))
theorem cy_X6_hold : cl_cy yX6_hold cX6_hold 2 (some .int) 1 := ⟨in_ClothesLineModel, cd_X6_hold, by decide +kernel, by decide +kernel, by decide +kernel⟩
theorem vy_X6_hold : cl_vy yX6_hold := ⟨im_X6_hold, se_X6_hold⟩
def f_X6_reaches_18 (M : cl_M) (z0 : Int32) : Option (Int32) := if cl_bz z0 = true then some z0 else none
set_option maxHeartbeats 4000000 in
set_option maxRecDepth 100000 in
theorem k_X6_reaches_18 {p : Program} {l : Launch} {e : Env} {s : State} {m : MethodId} {args : Array Value} {below : List Frame} {meth : Method} {c : Code} {dd : cl_D} {b : Nat} (C : cl_C p l s m args meth c cX6_reaches RX6 3 (some .boolean) dd b) : ∀ (M : cl_M) (z0 : Int32) (r : Int32), f_X6_reaches_18 M z0 = some r → ∀ (H : Heap) (locs : List Loc) (ls : Array Slot), cl_H dd b M s H locs → lv_has ls 3 [] → W p l e { frames := 1, cells := 0, slots := 0, locals := 22 } s m args below meth c H locs 0 0 (cl_Zi below args s dd b r M) (F0 m 18 ls [.int z0]) := by
  have hx := C.1
  have hb := C.2.1
  have hlt := C.2.2.2.2.2.2.2.2.2.2
  have hRr := C.2.2.2.2.2.2.2.2.2.1
  intro M z0 r hf H locs ls hw hl
  unfold f_X6_reaches_18 at hf
  obtain ⟨q4, hf⟩ := cl_grd hf
  obtain rfl := Option.some.inj hf
  exact cr_retz C hw q4 dX6_reaches_18
def f_X6_reaches (M : cl_M) (t0 : Nat) (a1 : Int32) (a2 : Int32) : Option (Int32) := (f_X6_of M t0 a1 0).bind (fun v1 => if 24 < (a2 + v1) then f_X6_reaches_18 M 0 else f_X6_reaches_18 M 1)
set_option maxHeartbeats 4000000 in
set_option maxRecDepth 100000 in
theorem k_X6_reaches {p : Program} {l : Launch} {e : Env} {s : State} {m : MethodId} {args : Array Value} {below : List Frame} {meth : Method} {c : Code} {dd : cl_D} {b : Nat} (C : cl_C p l s m args meth c cX6_reaches RX6 3 (some .boolean) dd b) : ∀ (M : cl_M) (t0 : Nat) (a1 : Int32) (a2 : Int32) (r : Int32), f_X6_reaches M t0 a1 a2 = some r → ∀ (H : Heap) (locs : List Loc) (ls : Array Slot), cl_sh dd t0 = 6 → cl_H dd b M s H locs → lv_has ls 3 [(0, .ref (b + t0)), (1, .int a1), (2, .int a2)] → W p l e { frames := 1, cells := 0, slots := 0, locals := 22 } s m args below meth c H locs 0 0 (cl_Zi below args s dd b r M) (F0 m 0 ls []) := by
  have hx := C.1
  have hb := C.2.1
  have hlt := C.2.2.2.2.2.2.2.2.2.2
  have hRr := C.2.2.2.2.2.2.2.2.2.1
  intro M t0 a1 a2 r hf H locs ls ht0 hw hl
  unfold f_X6_reaches at hf
  refine lv_iload_n hx hb dX6_reaches_0 rfl (lv_at hl 2 rfl) ?_
  refine lv_aload_n hx hb dX6_reaches_1 rfl (lv_at hl 0 rfl) ?_
  refine lv_iload_n hx hb dX6_reaches_2 rfl (lv_at hl 1 rfl) ?_
  refine lv_iconst (v := 0) hx hb dX6_reaches_3 (by decide) ?_
  obtain ⟨v1, e2, hf⟩ := cl_bind_e hf
  refine cr_Vi C hw (c_X6_of hlt ht0 e2) cy_X6_of vy_X6_of ml_X6_81 (cl_lt ht0 (by decide)) (cl_e6 ht0) rfl rfl (As := [.int a1, .int 0]) rfl hl.1 rfl ⟨⟨Nat.le_of_ble_eq_true rfl, Nat.le_of_ble_eq_true rfl⟩, Nat.le_of_ble_eq_true rfl, Nat.le_of_ble_eq_true rfl, Nat.le_of_ble_eq_true rfl⟩ dX6_reaches_4 (fun H locs hw => ?_)
  refine lv_iadd hx hb dX6_reaches_7 ?_
  refine lv_bipush (v := 24) hx hb dX6_reaches_8 (by decide) ?_
  refine lv_icmp_gt (tgt := 17) hx hb dX6_reaches_10 (by decide) (fun c3 => ?_) (fun c3 => ?_)
  · have hf := cl_yes c3 hf
    refine lv_iconst (v := 0) hx hb dX6_reaches_17 (by decide) ?_
    exact k_X6_reaches_18 C M 0 _ hf _ _ _ hw (lv_sub hl [] rfl)
  · have hf := cl_no c3 hf
    refine lv_iconst (v := 1) hx hb dX6_reaches_13 (by decide) ?_
    refine lv_goto (tgt := 18) hx hb dX6_reaches_14 (by decide) ?_
    exact k_X6_reaches_18 C M 1 _ hf _ _ _ hw (lv_sub hl [] rfl)
set_option maxRecDepth 100000 in
theorem c_X6_reaches {l : Launch} {dd : cl_D} {b : Nat} (hlt : l.stackTraces = false) {M : cl_M} {t0 : Nat} {a1 : Int32} {a2 : Int32}  {r : Int32} (ht0 : cl_sh dd t0 = 6) (h : f_X6_reaches M t0 a1 a2 = some r) : cl_Mi l dd b yX6_reaches cX6_reaches 3 (some .boolean) 1 22 [.ref (b + t0), .int a1, .int a2] M r M :=
  cl_of hlt (by decide) (Nat.le_of_ble_eq_true rfl) (fun p e s m below meth c ls C hw hl => k_X6_reaches C M t0 a1 a2 r h _ _ _ ht0 hw (lv_sub hl [0, 1, 2] rfl))
theorem cy_X6_reaches : cl_cy yX6_reaches cX6_reaches 3 (some .boolean) 2 := ⟨in_ClothesLineModel, cd_X6_reaches, by decide +kernel, by decide +kernel, by decide +kernel⟩
theorem vy_X6_reaches : cl_vy yX6_reaches := ⟨im_X6_reaches, se_X6_reaches⟩
def f_X6_obstacle_96 (M : cl_M) (z0 : Int32) : Option (Int32) := some z0
set_option maxHeartbeats 4000000 in
set_option maxRecDepth 100000 in
theorem k_X6_obstacle_96 {p : Program} {l : Launch} {e : Env} {s : State} {m : MethodId} {args : Array Value} {below : List Frame} {meth : Method} {c : Code} {dd : cl_D} {b : Nat} (C : cl_C p l s m args meth c cX6_obstacle RX6 5 (some .int) dd b) : ∀ (M : cl_M) (z0 : Int32) (r : Int32), f_X6_obstacle_96 M z0 = some r → ∀ (H : Heap) (locs : List Loc) (ls : Array Slot), cl_H dd b M s H locs → lv_has ls 5 [] → W p l e { frames := 4, cells := 0, slots := 0, locals := 88 } s m args below meth c H locs 0 0 (cl_Zi below args s dd b r M) (F0 m 96 ls [.int z0]) := by
  have hx := C.1
  have hb := C.2.1
  have hlt := C.2.2.2.2.2.2.2.2.2.2
  have hRr := C.2.2.2.2.2.2.2.2.2.1
  intro M z0 r hf H locs ls hw hl
  unfold f_X6_obstacle_96 at hf
  obtain rfl := Option.some.inj hf
  exact cr_reti C hw dX6_obstacle_96
def f_X6_obstacle (M : cl_M) (t0 : Nat) (a1 : Int32) (a2 : Int32) (a3 : Int32) (a4 : Int32) : Option (Int32) := (f_X6_isIn M t0 a1 0).bind (fun v1 => if v1 = 0 then some 1 else (f_X6_reaches M t0 a1 a2).bind (fun v4 => if v4 = 0 then some 2 else (f_X6_spotsFrom M t0 a1 a2).bind (fun v7 => (f_X6_taken M t0 (-1)).bind (fun v9 => if (v7 &&& v9) = 0 then (f_X6_inRange M (a3 + a4) 1 4).bind (fun v12 => if v12 = 0 then some 4 else if (M (t0 + 2) 2) < a3 then some 5 else if a4 ≤ (M (t0 + 2) 3) then (f_X6_weight M t0 a1).bind (fun v17 => (f_X6_holdBy M a3 a4).bind (fun v19 => if v17 ≤ v19 then f_X6_obstacle_96 M 0 else f_X6_obstacle_96 M 6)) else some 5) else some 3))))
set_option maxHeartbeats 4000000 in
set_option maxRecDepth 100000 in
theorem k_X6_obstacle {p : Program} {l : Launch} {e : Env} {s : State} {m : MethodId} {args : Array Value} {below : List Frame} {meth : Method} {c : Code} {dd : cl_D} {b : Nat} (C : cl_C p l s m args meth c cX6_obstacle RX6 5 (some .int) dd b) : ∀ (M : cl_M) (t0 : Nat) (a1 : Int32) (a2 : Int32) (a3 : Int32) (a4 : Int32) (r : Int32), f_X6_obstacle M t0 a1 a2 a3 a4 = some r → ∀ (H : Heap) (locs : List Loc) (ls : Array Slot), cl_sh dd t0 = 6 → cl_H dd b M s H locs → lv_has ls 5 [(0, .ref (b + t0)), (1, .int a1), (2, .int a2), (3, .int a3), (4, .int a4)] → W p l e { frames := 4, cells := 0, slots := 0, locals := 88 } s m args below meth c H locs 0 0 (cl_Zi below args s dd b r M) (F0 m 0 ls []) := by
  have hx := C.1
  have hb := C.2.1
  have hlt := C.2.2.2.2.2.2.2.2.2.2
  have hRr := C.2.2.2.2.2.2.2.2.2.1
  intro M t0 a1 a2 a3 a4 r hf H locs ls ht0 hw hl
  unfold f_X6_obstacle at hf
  refine lv_aload_n hx hb dX6_obstacle_0 rfl (lv_at hl 0 rfl) ?_
  refine lv_iload_n hx hb dX6_obstacle_1 rfl (lv_at hl 1 rfl) ?_
  refine lv_iconst (v := 0) hx hb dX6_obstacle_2 (by decide) ?_
  obtain ⟨v1, e2, hf⟩ := cl_bind_e hf
  refine cr_Vi C hw (c_X6_isIn hlt ht0 e2) cy_X6_isIn vy_X6_isIn ml_X6_84 (cl_lt ht0 (by decide)) (cl_e6 ht0) rfl rfl (As := [.int a1, .int 0]) rfl hl.1 rfl ⟨⟨Nat.le_of_ble_eq_true rfl, Nat.le_of_ble_eq_true rfl⟩, Nat.le_of_ble_eq_true rfl, Nat.le_of_ble_eq_true rfl, Nat.le_of_ble_eq_true rfl⟩ dX6_obstacle_3 (fun H locs hw => ?_)
  refine lv_if_ne (tgt := 11) hx hb dX6_obstacle_6 (by decide) (fun c3 => ?_) (fun c3 => ?_)
  · have hf := cl_no c3 hf
    refine lv_aload_n hx hb dX6_obstacle_11 rfl (lv_at hl 0 rfl) ?_
    refine lv_iload_n hx hb dX6_obstacle_12 rfl (lv_at hl 1 rfl) ?_
    refine lv_iload_n hx hb dX6_obstacle_13 rfl (lv_at hl 2 rfl) ?_
    obtain ⟨v4, e5, hf⟩ := cl_bind_e hf
    refine cr_Vi C hw (c_X6_reaches hlt ht0 e5) cy_X6_reaches vy_X6_reaches ml_X6_97 (cl_lt ht0 (by decide)) (cl_e6 ht0) rfl rfl (As := [.int a1, .int a2]) rfl hl.1 rfl ⟨⟨Nat.le_of_ble_eq_true rfl, Nat.le_of_ble_eq_true rfl⟩, Nat.le_of_ble_eq_true rfl, Nat.le_of_ble_eq_true rfl, Nat.le_of_ble_eq_true rfl⟩ dX6_obstacle_14 (fun H locs hw => ?_)
    refine lv_if_ne (tgt := 22) hx hb dX6_obstacle_17 (by decide) (fun c6 => ?_) (fun c6 => ?_)
    · have hf := cl_no c6 hf
      refine lv_aload_n hx hb dX6_obstacle_22 rfl (lv_at hl 0 rfl) ?_
      refine lv_iload_n hx hb dX6_obstacle_23 rfl (lv_at hl 1 rfl) ?_
      refine lv_iload_n hx hb dX6_obstacle_24 rfl (lv_at hl 2 rfl) ?_
      obtain ⟨v7, e8, hf⟩ := cl_bind_e hf
      refine cr_Vi C hw (c_X6_spotsFrom hlt ht0 e8) cy_X6_spotsFrom vy_X6_spotsFrom ml_X6_88 (cl_lt ht0 (by decide)) (cl_e6 ht0) rfl rfl (As := [.int a1, .int a2]) rfl hl.1 rfl ⟨⟨Nat.le_of_ble_eq_true rfl, Nat.le_of_ble_eq_true rfl⟩, Nat.le_of_ble_eq_true rfl, Nat.le_of_ble_eq_true rfl, Nat.le_of_ble_eq_true rfl⟩ dX6_obstacle_25 (fun H locs hw => ?_)
      refine lv_aload_n hx hb dX6_obstacle_28 rfl (lv_at hl 0 rfl) ?_
      refine lv_iconst (v := (-1)) hx hb dX6_obstacle_29 (by decide) ?_
      obtain ⟨v9, e10, hf⟩ := cl_bind_e hf
      refine cr_Vi C hw (c_X6_taken hlt ht0 e10) cy_X6_taken vy_X6_taken ml_X6_100 (cl_lt ht0 (by decide)) (cl_e6 ht0) rfl rfl (As := [.int (-1)]) rfl hl.1 rfl ⟨⟨Nat.le_of_ble_eq_true rfl, Nat.le_of_ble_eq_true rfl⟩, Nat.le_of_ble_eq_true rfl, Nat.le_of_ble_eq_true rfl, Nat.le_of_ble_eq_true rfl⟩ dX6_obstacle_30 (fun H locs hw => ?_)
      refine lv_iand hx hb dX6_obstacle_33 ?_
      refine lv_if_eq (tgt := 39) hx hb dX6_obstacle_34 (by decide) (fun c11 => ?_) (fun c11 => ?_)
      · have hf := cl_yes c11 hf
        refine lv_iload_n hx hb dX6_obstacle_39 rfl (lv_at hl 3 rfl) ?_
        refine lv_iload hx hb dX6_obstacle_40 (lv_at hl 4 rfl) ?_
        refine lv_iadd hx hb dX6_obstacle_42 ?_
        refine lv_iconst (v := 1) hx hb dX6_obstacle_43 (by decide) ?_
        refine lv_iconst (v := 4) hx hb dX6_obstacle_44 (by decide) ?_
        obtain ⟨v12, e13, hf⟩ := cl_bind_e hf
        refine cr_Si C hw (c_X6_inRange hlt e13) cy_X6_inRange st_X6_inRange ml_X6_63 (As := [.int (a3 + a4), .int 1, .int 4]) rfl hl.1 rfl ⟨⟨Nat.le_of_ble_eq_true rfl, Nat.le_of_ble_eq_true rfl⟩, Nat.le_of_ble_eq_true rfl, Nat.le_of_ble_eq_true rfl, Nat.le_of_ble_eq_true rfl⟩ dX6_obstacle_45 (fun H locs hw => ?_)
        refine lv_if_ne (tgt := 53) hx hb dX6_obstacle_48 (by decide) (fun c14 => ?_) (fun c14 => ?_)
        · have hf := cl_no c14 hf
          refine lv_iload_n hx hb dX6_obstacle_53 rfl (lv_at hl 3 rfl) ?_
          refine lv_aload_n hx hb dX6_obstacle_54 rfl (lv_at hl 0 rfl) ?_
          refine fg_X6_17 C hw ht0 dX6_obstacle_55 ?_
          refine lv_iconst (v := 2) hx hb dX6_obstacle_58 (by decide) ?_
          refine cr_iald C hw (sh_6_5 ht0).1 (sh_6_5 ht0).2 (by decide) (k := 2) rfl dX6_obstacle_59 ?_
          refine lv_icmp_gt (tgt := 74) hx hb dX6_obstacle_60 (by decide) (fun c15 => ?_) (fun c15 => ?_)
          · have hf := cl_yes c15 hf
            refine lv_iconst (v := 5) hx hb dX6_obstacle_74 (by decide) ?_
            obtain rfl := Option.some.inj hf
            exact cr_reti C hw dX6_obstacle_75
          · have hf := cl_no c15 hf
            refine lv_iload hx hb dX6_obstacle_63 (lv_at hl 4 rfl) ?_
            refine lv_aload_n hx hb dX6_obstacle_65 rfl (lv_at hl 0 rfl) ?_
            refine fg_X6_17 C hw ht0 dX6_obstacle_66 ?_
            refine lv_iconst (v := 3) hx hb dX6_obstacle_69 (by decide) ?_
            refine cr_iald C hw (sh_6_5 ht0).1 (sh_6_5 ht0).2 (by decide) (k := 3) rfl dX6_obstacle_70 ?_
            refine lv_icmp_le (tgt := 76) hx hb dX6_obstacle_71 (by decide) (fun c16 => ?_) (fun c16 => ?_)
            · have hf := cl_yes c16 hf
              refine lv_aload_n hx hb dX6_obstacle_76 rfl (lv_at hl 0 rfl) ?_
              refine lv_iload_n hx hb dX6_obstacle_77 rfl (lv_at hl 1 rfl) ?_
              obtain ⟨v17, e18, hf⟩ := cl_bind_e hf
              refine cr_Vi C hw (c_X6_weight hlt ht0 e18) cy_X6_weight vy_X6_weight ml_X6_103 (cl_lt ht0 (by decide)) (cl_e6 ht0) rfl rfl (As := [.int a1]) rfl hl.1 rfl ⟨⟨Nat.le_of_ble_eq_true rfl, Nat.le_of_ble_eq_true rfl⟩, Nat.le_of_ble_eq_true rfl, Nat.le_of_ble_eq_true rfl, Nat.le_of_ble_eq_true rfl⟩ dX6_obstacle_78 (fun H locs hw => ?_)
              refine lv_iload_n hx hb dX6_obstacle_81 rfl (lv_at hl 3 rfl) ?_
              refine lv_iload hx hb dX6_obstacle_82 (lv_at hl 4 rfl) ?_
              obtain ⟨v19, e20, hf⟩ := cl_bind_e hf
              refine cr_Si C hw (c_X6_holdBy hlt e20) cy_X6_holdBy st_X6_holdBy ml_X6_94 (As := [.int a3, .int a4]) rfl hl.1 rfl ⟨⟨Nat.le_of_ble_eq_true rfl, Nat.le_of_ble_eq_true rfl⟩, Nat.le_of_ble_eq_true rfl, Nat.le_of_ble_eq_true rfl, Nat.le_of_ble_eq_true rfl⟩ dX6_obstacle_84 (fun H locs hw => ?_)
              refine lv_icmp_le (tgt := 95) hx hb dX6_obstacle_87 (by decide) (fun c21 => ?_) (fun c21 => ?_)
              · have hf := cl_yes c21 hf
                refine lv_iconst (v := 0) hx hb dX6_obstacle_95 (by decide) ?_
                exact k_X6_obstacle_96 C M 0 _ hf _ _ _ hw (lv_sub hl [] rfl)
              · have hf := cl_no c21 hf
                refine lv_bipush (v := 6) hx hb dX6_obstacle_90 (by decide) ?_
                refine lv_goto (tgt := 96) hx hb dX6_obstacle_92 (by decide) ?_
                exact k_X6_obstacle_96 C M 6 _ hf _ _ _ hw (lv_sub hl [] rfl)
            · have hf := cl_no c16 hf
              refine lv_iconst (v := 5) hx hb dX6_obstacle_74 (by decide) ?_
              obtain rfl := Option.some.inj hf
              exact cr_reti C hw dX6_obstacle_75
        · have hf := cl_yes c14 hf
          refine lv_iconst (v := 4) hx hb dX6_obstacle_51 (by decide) ?_
          obtain rfl := Option.some.inj hf
          exact cr_reti C hw dX6_obstacle_52
      · have hf := cl_no c11 hf
        refine lv_iconst (v := 3) hx hb dX6_obstacle_37 (by decide) ?_
        obtain rfl := Option.some.inj hf
        exact cr_reti C hw dX6_obstacle_38
    · have hf := cl_yes c6 hf
      refine lv_iconst (v := 2) hx hb dX6_obstacle_20 (by decide) ?_
      obtain rfl := Option.some.inj hf
      exact cr_reti C hw dX6_obstacle_21
  · have hf := cl_yes c3 hf
    refine lv_iconst (v := 1) hx hb dX6_obstacle_9 (by decide) ?_
    obtain rfl := Option.some.inj hf
    exact cr_reti C hw dX6_obstacle_10
set_option maxRecDepth 100000 in
theorem c_X6_obstacle {l : Launch} {dd : cl_D} {b : Nat} (hlt : l.stackTraces = false) {M : cl_M} {t0 : Nat} {a1 : Int32} {a2 : Int32} {a3 : Int32} {a4 : Int32}  {r : Int32} (ht0 : cl_sh dd t0 = 6) (h : f_X6_obstacle M t0 a1 a2 a3 a4 = some r) : cl_Mi l dd b yX6_obstacle cX6_obstacle 5 (some .int) 4 88 [.ref (b + t0), .int a1, .int a2, .int a3, .int a4] M r M :=
  cl_of hlt (by decide) (Nat.le_of_ble_eq_true rfl) (fun p e s m below meth c ls C hw hl => k_X6_obstacle C M t0 a1 a2 a3 a4 r h _ _ _ ht0 hw (lv_sub hl [0, 1, 2, 3, 4] rfl))
theorem cy_X6_obstacle : cl_cy yX6_obstacle cX6_obstacle 5 (some .int) 4 := ⟨in_ClothesLineModel, cd_X6_obstacle, by decide +kernel, by decide +kernel, by decide +kernel⟩
theorem vy_X6_obstacle : cl_vy yX6_obstacle := ⟨im_X6_obstacle, se_X6_obstacle⟩
def f_X6_add (M : cl_M) (t0 : Nat) (a1 : Int32) (a2 : Int32) : Option (cl_M) := (f_X6_of M t0 a1 3).bind (fun v1 => (f_X6_put M t0 a1 3 (v1 + a2)).bind (fun M3 => cl_let (cl_ms M3 (t0 + 2) 8 ((M3 (t0 + 2) 8) + a2)) (fun M5 => some M5)))
set_option maxHeartbeats 4000000 in
set_option maxRecDepth 100000 in
theorem k_X6_add {p : Program} {l : Launch} {e : Env} {s : State} {m : MethodId} {args : Array Value} {below : List Frame} {meth : Method} {c : Code} {dd : cl_D} {b : Nat} (C : cl_C p l s m args meth c cX6_add RX6 3 none dd b) : ∀ (M : cl_M) (t0 : Nat) (a1 : Int32) (a2 : Int32) (M' : cl_M), f_X6_add M t0 a1 a2 = some M' → ∀ (H : Heap) (locs : List Loc) (ls : Array Slot), cl_sh dd t0 = 6 → cl_H dd b M s H locs → lv_has ls 3 [(0, .ref (b + t0)), (1, .int a1), (2, .int a2)] → W p l e { frames := 1, cells := 0, slots := 0, locals := 23 } s m args below meth c H locs 0 0 (cl_Zv below args s dd b M') (F0 m 0 ls []) := by
  have hx := C.1
  have hb := C.2.1
  have hlt := C.2.2.2.2.2.2.2.2.2.2
  have hRr := C.2.2.2.2.2.2.2.2.2.1
  intro M t0 a1 a2 M' hf H locs ls ht0 hw hl
  unfold f_X6_add at hf
  refine lv_aload_n hx hb dX6_add_0 rfl (lv_at hl 0 rfl) ?_
  refine lv_iload_n hx hb dX6_add_1 rfl (lv_at hl 1 rfl) ?_
  refine lv_iconst (v := 3) hx hb dX6_add_2 (by decide) ?_
  refine lv_aload_n hx hb dX6_add_3 rfl (lv_at hl 0 rfl) ?_
  refine lv_iload_n hx hb dX6_add_4 rfl (lv_at hl 1 rfl) ?_
  refine lv_iconst (v := 3) hx hb dX6_add_5 (by decide) ?_
  obtain ⟨v1, e2, hf⟩ := cl_bind_e hf
  refine cr_Vi C hw (c_X6_of hlt ht0 e2) cy_X6_of vy_X6_of ml_X6_81 (cl_lt ht0 (by decide)) (cl_e6 ht0) rfl rfl (As := [.int a1, .int 3]) rfl hl.1 rfl ⟨⟨Nat.le_of_ble_eq_true rfl, Nat.le_of_ble_eq_true rfl⟩, Nat.le_of_ble_eq_true rfl, Nat.le_of_ble_eq_true rfl, Nat.le_of_ble_eq_true rfl⟩ dX6_add_6 (fun H locs hw => ?_)
  refine lv_iload_n hx hb dX6_add_9 rfl (lv_at hl 2 rfl) ?_
  refine lv_iadd hx hb dX6_add_10 ?_
  obtain ⟨M3, e4, hf⟩ := cl_bind_e hf
  refine cr_Vv C hw (c_X6_put hlt ht0 e4) cy_X6_put vy_X6_put ml_X6_106 (cl_lt ht0 (by decide)) (cl_e6 ht0) rfl rfl (As := [.int a1, .int 3, .int (v1 + a2)]) rfl hl.1 rfl ⟨⟨Nat.le_of_ble_eq_true rfl, Nat.le_of_ble_eq_true rfl⟩, Nat.le_of_ble_eq_true rfl, Nat.le_of_ble_eq_true rfl, Nat.le_of_ble_eq_true rfl⟩ dX6_add_11 (fun H locs hw => ?_)
  refine lv_aload_n hx hb dX6_add_14 rfl (lv_at hl 0 rfl) ?_
  refine fg_X6_17 C hw ht0 dX6_add_15 ?_
  refine lv_bipush (v := 8) hx hb dX6_add_18 (by decide) ?_
  refine lv_dup2_11 hx hb dX6_add_20 rfl rfl ?_
  refine cr_iald C hw (sh_6_5 ht0).1 (sh_6_5 ht0).2 (by decide) (k := 8) rfl dX6_add_21 ?_
  refine lv_iload_n hx hb dX6_add_22 rfl (lv_at hl 2 rfl) ?_
  refine lv_iadd hx hb dX6_add_23 ?_
  obtain ⟨M5, eM5, hf⟩ := cl_let_e hf
  refine cr_iast C hw (sh_6_5 ht0).1 (sh_6_5 ht0).2 (by decide) (k := 8) rfl eM5 dX6_add_24 (fun H locs hw => ?_)
  obtain rfl := Option.some.inj hf
  exact cr_retv C hw dX6_add_25
set_option maxRecDepth 100000 in
theorem c_X6_add {l : Launch} {dd : cl_D} {b : Nat} (hlt : l.stackTraces = false) {M : cl_M} {t0 : Nat} {a1 : Int32} {a2 : Int32}  {M' : cl_M} (ht0 : cl_sh dd t0 = 6) (h : f_X6_add M t0 a1 a2 = some M') : cl_Mv l dd b yX6_add cX6_add 3 none 1 23 [.ref (b + t0), .int a1, .int a2] M M' :=
  cl_of hlt (by decide) (Nat.le_of_ble_eq_true rfl) (fun p e s m below meth c ls C hw hl => k_X6_add C M t0 a1 a2 M' h _ _ _ ht0 hw (lv_sub hl [0, 1, 2] rfl))
theorem cy_X6_add : cl_cy yX6_add cX6_add 3 none 2 := ⟨in_ClothesLineModel, cd_X6_add, by decide +kernel, by decide +kernel, by decide +kernel⟩
theorem vy_X6_add : cl_vy yX6_add := ⟨im_X6_add, se_X6_add⟩
def f_X6_dry (M : cl_M) (t0 : Nat) (a1 : Int32) (a2 : Int32) (a3 : Int32) : Option (cl_M) := (f_X6_of M t0 a1 3).bind (fun v1 => cl_let (if v1 < a2 then v1 else a2) (fun v3 => (f_X6_of M t0 a1 3).bind (fun v4 => (f_X6_put M t0 a1 3 (v4 - v3)).bind (fun M6 => if cl_inb a3 149 = true then if cl_inb a3 149 = true then cl_let (cl_ms M6 (t0 + 2) (a3).toNatClampNeg ((M6 (t0 + 2) (a3.toNatClampNeg)) + v3)) (fun M10 => some M10) else none else none))))
set_option maxHeartbeats 4000000 in
set_option maxRecDepth 100000 in
theorem k_X6_dry {p : Program} {l : Launch} {e : Env} {s : State} {m : MethodId} {args : Array Value} {below : List Frame} {meth : Method} {c : Code} {dd : cl_D} {b : Nat} (C : cl_C p l s m args meth c cX6_dry RX6 5 none dd b) : ∀ (M : cl_M) (t0 : Nat) (a1 : Int32) (a2 : Int32) (a3 : Int32) (M' : cl_M), f_X6_dry M t0 a1 a2 a3 = some M' → ∀ (H : Heap) (locs : List Loc) (ls : Array Slot), cl_sh dd t0 = 6 → cl_H dd b M s H locs → lv_has ls 5 [(0, .ref (b + t0)), (1, .int a1), (2, .int a2), (3, .int a3)] → W p l e { frames := 1, cells := 0, slots := 0, locals := 23 } s m args below meth c H locs 0 0 (cl_Zv below args s dd b M') (F0 m 0 ls []) := by
  have hx := C.1
  have hb := C.2.1
  have hlt := C.2.2.2.2.2.2.2.2.2.2
  have hRr := C.2.2.2.2.2.2.2.2.2.1
  intro M t0 a1 a2 a3 M' hf H locs ls ht0 hw hl
  unfold f_X6_dry at hf
  refine lv_iload_n hx hb dX6_dry_0 rfl (lv_at hl 2 rfl) ?_
  refine lv_aload_n hx hb dX6_dry_1 rfl (lv_at hl 0 rfl) ?_
  refine lv_iload_n hx hb dX6_dry_2 rfl (lv_at hl 1 rfl) ?_
  refine lv_iconst (v := 3) hx hb dX6_dry_3 (by decide) ?_
  obtain ⟨v1, e2, hf⟩ := cl_bind_e hf
  refine cr_Vi C hw (c_X6_of hlt ht0 e2) cy_X6_of vy_X6_of ml_X6_81 (cl_lt ht0 (by decide)) (cl_e6 ht0) rfl rfl (As := [.int a1, .int 3]) rfl hl.1 rfl ⟨⟨Nat.le_of_ble_eq_true rfl, Nat.le_of_ble_eq_true rfl⟩, Nat.le_of_ble_eq_true rfl, Nat.le_of_ble_eq_true rfl, Nat.le_of_ble_eq_true rfl⟩ dX6_dry_4 (fun H locs hw => ?_)
  refine cr_min C ml_X6_75 st_math_min in_math cd_math_min hl.1 ⟨Nat.le_of_ble_eq_true rfl, Nat.le_of_ble_eq_true rfl, Nat.le_of_ble_eq_true rfl, Nat.le_of_ble_eq_true rfl⟩ dX6_dry_7 ?_
  obtain ⟨v3, ev3, hf⟩ := cl_let_e hf
  refine cr_top ev3 ?_
  refine lv_istore (lv' := [(4, .int v3), (0, .ref (b + t0)), (1, .int a1), (2, .int a2), (3, .int a3)]) hx hb dX6_dry_10 hl (by decide) rfl (fun ls hl => ?_)
  refine lv_aload_n hx hb dX6_dry_12 rfl (lv_at hl 1 rfl) ?_
  refine lv_iload_n hx hb dX6_dry_13 rfl (lv_at hl 2 rfl) ?_
  refine lv_iconst (v := 3) hx hb dX6_dry_14 (by decide) ?_
  refine lv_aload_n hx hb dX6_dry_15 rfl (lv_at hl 1 rfl) ?_
  refine lv_iload_n hx hb dX6_dry_16 rfl (lv_at hl 2 rfl) ?_
  refine lv_iconst (v := 3) hx hb dX6_dry_17 (by decide) ?_
  obtain ⟨v4, e5, hf⟩ := cl_bind_e hf
  refine cr_Vi C hw (c_X6_of hlt ht0 e5) cy_X6_of vy_X6_of ml_X6_81 (cl_lt ht0 (by decide)) (cl_e6 ht0) rfl rfl (As := [.int a1, .int 3]) rfl hl.1 rfl ⟨⟨Nat.le_of_ble_eq_true rfl, Nat.le_of_ble_eq_true rfl⟩, Nat.le_of_ble_eq_true rfl, Nat.le_of_ble_eq_true rfl, Nat.le_of_ble_eq_true rfl⟩ dX6_dry_18 (fun H locs hw => ?_)
  refine lv_iload hx hb dX6_dry_21 (lv_at hl 0 rfl) ?_
  refine lv_isub hx hb dX6_dry_23 ?_
  obtain ⟨M6, e7, hf⟩ := cl_bind_e hf
  refine cr_Vv C hw (c_X6_put hlt ht0 e7) cy_X6_put vy_X6_put ml_X6_106 (cl_lt ht0 (by decide)) (cl_e6 ht0) rfl rfl (As := [.int a1, .int 3, .int (v4 - v3)]) rfl hl.1 rfl ⟨⟨Nat.le_of_ble_eq_true rfl, Nat.le_of_ble_eq_true rfl⟩, Nat.le_of_ble_eq_true rfl, Nat.le_of_ble_eq_true rfl, Nat.le_of_ble_eq_true rfl⟩ dX6_dry_24 (fun H locs hw => ?_)
  refine lv_aload_n hx hb dX6_dry_27 rfl (lv_at hl 1 rfl) ?_
  refine fg_X6_17 C hw ht0 dX6_dry_28 ?_
  refine lv_iload_n hx hb dX6_dry_31 rfl (lv_at hl 4 rfl) ?_
  refine lv_dup2_11 hx hb dX6_dry_32 rfl rfl ?_
  obtain ⟨q8, hf⟩ := cl_grd hf
  refine cr_iald C hw (sh_6_5 ht0).1 (sh_6_5 ht0).2 q8 (k := a3.toNatClampNeg) rfl dX6_dry_33 ?_
  refine lv_iload hx hb dX6_dry_34 (lv_at hl 0 rfl) ?_
  refine lv_iadd hx hb dX6_dry_36 ?_
  obtain ⟨q9, hf⟩ := cl_grd hf
  obtain ⟨M10, eM10, hf⟩ := cl_let_e hf
  refine cr_iast C hw (sh_6_5 ht0).1 (sh_6_5 ht0).2 q9 (k := (a3).toNatClampNeg) rfl eM10 dX6_dry_37 (fun H locs hw => ?_)
  obtain rfl := Option.some.inj hf
  exact cr_retv C hw dX6_dry_38
set_option maxRecDepth 100000 in
theorem c_X6_dry {l : Launch} {dd : cl_D} {b : Nat} (hlt : l.stackTraces = false) {M : cl_M} {t0 : Nat} {a1 : Int32} {a2 : Int32} {a3 : Int32}  {M' : cl_M} (ht0 : cl_sh dd t0 = 6) (h : f_X6_dry M t0 a1 a2 a3 = some M') : cl_Mv l dd b yX6_dry cX6_dry 5 none 1 23 [.ref (b + t0), .int a1, .int a2, .int a3] M M' :=
  cl_of hlt (by decide) (Nat.le_of_ble_eq_true rfl) (fun p e s m below meth c ls C hw hl => k_X6_dry C M t0 a1 a2 a3 M' h _ _ _ ht0 hw (lv_sub hl [0, 1, 2, 3] rfl))
theorem cy_X6_dry : cl_cy yX6_dry cX6_dry 5 none 3 := ⟨in_ClothesLineModel, cd_X6_dry, by decide +kernel, by decide +kernel, by decide +kernel⟩
theorem vy_X6_dry : cl_vy yX6_dry := ⟨im_X6_dry, se_X6_dry⟩
def f_X6_freePegs (M : cl_M) (t0 : Nat) (a1 : Int32) : Option (cl_M) := (f_X6_of M t0 a1 8).bind (fun v1 => cl_let (cl_ms M (t0 + 2) 2 ((M (t0 + 2) 2) + v1)) (fun M3 => (f_X6_of M3 t0 a1 9).bind (fun v4 => cl_let (cl_ms M3 (t0 + 2) 3 ((M3 (t0 + 2) 3) + v4)) (fun M6 => (f_X6_put M6 t0 a1 8 0).bind (fun M7 => (f_X6_put M7 t0 a1 9 0).bind (fun M9 => (f_X6_put M9 t0 a1 7 (-1)).bind (fun M11 => some M11)))))))
set_option maxHeartbeats 4000000 in
set_option maxRecDepth 100000 in
theorem k_X6_freePegs {p : Program} {l : Launch} {e : Env} {s : State} {m : MethodId} {args : Array Value} {below : List Frame} {meth : Method} {c : Code} {dd : cl_D} {b : Nat} (C : cl_C p l s m args meth c cX6_freePegs RX6 2 none dd b) : ∀ (M : cl_M) (t0 : Nat) (a1 : Int32) (M' : cl_M), f_X6_freePegs M t0 a1 = some M' → ∀ (H : Heap) (locs : List Loc) (ls : Array Slot), cl_sh dd t0 = 6 → cl_H dd b M s H locs → lv_has ls 2 [(0, .ref (b + t0)), (1, .int a1)] → W p l e { frames := 1, cells := 0, slots := 0, locals := 23 } s m args below meth c H locs 0 0 (cl_Zv below args s dd b M') (F0 m 0 ls []) := by
  have hx := C.1
  have hb := C.2.1
  have hlt := C.2.2.2.2.2.2.2.2.2.2
  have hRr := C.2.2.2.2.2.2.2.2.2.1
  intro M t0 a1 M' hf H locs ls ht0 hw hl
  unfold f_X6_freePegs at hf
  refine lv_aload_n hx hb dX6_freePegs_0 rfl (lv_at hl 0 rfl) ?_
  refine fg_X6_17 C hw ht0 dX6_freePegs_1 ?_
  refine lv_iconst (v := 2) hx hb dX6_freePegs_4 (by decide) ?_
  refine lv_dup2_11 hx hb dX6_freePegs_5 rfl rfl ?_
  refine cr_iald C hw (sh_6_5 ht0).1 (sh_6_5 ht0).2 (by decide) (k := 2) rfl dX6_freePegs_6 ?_
  refine lv_aload_n hx hb dX6_freePegs_7 rfl (lv_at hl 0 rfl) ?_
  refine lv_iload_n hx hb dX6_freePegs_8 rfl (lv_at hl 1 rfl) ?_
  refine lv_bipush (v := 8) hx hb dX6_freePegs_9 (by decide) ?_
  obtain ⟨v1, e2, hf⟩ := cl_bind_e hf
  refine cr_Vi C hw (c_X6_of hlt ht0 e2) cy_X6_of vy_X6_of ml_X6_81 (cl_lt ht0 (by decide)) (cl_e6 ht0) rfl rfl (As := [.int a1, .int 8]) rfl hl.1 rfl ⟨⟨Nat.le_of_ble_eq_true rfl, Nat.le_of_ble_eq_true rfl⟩, Nat.le_of_ble_eq_true rfl, Nat.le_of_ble_eq_true rfl, Nat.le_of_ble_eq_true rfl⟩ dX6_freePegs_11 (fun H locs hw => ?_)
  refine lv_iadd hx hb dX6_freePegs_14 ?_
  obtain ⟨M3, eM3, hf⟩ := cl_let_e hf
  refine cr_iast C hw (sh_6_5 ht0).1 (sh_6_5 ht0).2 (by decide) (k := 2) rfl eM3 dX6_freePegs_15 (fun H locs hw => ?_)
  refine lv_aload_n hx hb dX6_freePegs_16 rfl (lv_at hl 0 rfl) ?_
  refine fg_X6_17 C hw ht0 dX6_freePegs_17 ?_
  refine lv_iconst (v := 3) hx hb dX6_freePegs_20 (by decide) ?_
  refine lv_dup2_11 hx hb dX6_freePegs_21 rfl rfl ?_
  refine cr_iald C hw (sh_6_5 ht0).1 (sh_6_5 ht0).2 (by decide) (k := 3) rfl dX6_freePegs_22 ?_
  refine lv_aload_n hx hb dX6_freePegs_23 rfl (lv_at hl 0 rfl) ?_
  refine lv_iload_n hx hb dX6_freePegs_24 rfl (lv_at hl 1 rfl) ?_
  refine lv_bipush (v := 9) hx hb dX6_freePegs_25 (by decide) ?_
  obtain ⟨v4, e5, hf⟩ := cl_bind_e hf
  refine cr_Vi C hw (c_X6_of hlt ht0 e5) cy_X6_of vy_X6_of ml_X6_81 (cl_lt ht0 (by decide)) (cl_e6 ht0) rfl rfl (As := [.int a1, .int 9]) rfl hl.1 rfl ⟨⟨Nat.le_of_ble_eq_true rfl, Nat.le_of_ble_eq_true rfl⟩, Nat.le_of_ble_eq_true rfl, Nat.le_of_ble_eq_true rfl, Nat.le_of_ble_eq_true rfl⟩ dX6_freePegs_27 (fun H locs hw => ?_)
  refine lv_iadd hx hb dX6_freePegs_30 ?_
  obtain ⟨M6, eM6, hf⟩ := cl_let_e hf
  refine cr_iast C hw (sh_6_5 ht0).1 (sh_6_5 ht0).2 (by decide) (k := 3) rfl eM6 dX6_freePegs_31 (fun H locs hw => ?_)
  refine lv_aload_n hx hb dX6_freePegs_32 rfl (lv_at hl 0 rfl) ?_
  refine lv_iload_n hx hb dX6_freePegs_33 rfl (lv_at hl 1 rfl) ?_
  refine lv_bipush (v := 8) hx hb dX6_freePegs_34 (by decide) ?_
  refine lv_iconst (v := 0) hx hb dX6_freePegs_36 (by decide) ?_
  obtain ⟨M7, e8, hf⟩ := cl_bind_e hf
  refine cr_Vv C hw (c_X6_put hlt ht0 e8) cy_X6_put vy_X6_put ml_X6_106 (cl_lt ht0 (by decide)) (cl_e6 ht0) rfl rfl (As := [.int a1, .int 8, .int 0]) rfl hl.1 rfl ⟨⟨Nat.le_of_ble_eq_true rfl, Nat.le_of_ble_eq_true rfl⟩, Nat.le_of_ble_eq_true rfl, Nat.le_of_ble_eq_true rfl, Nat.le_of_ble_eq_true rfl⟩ dX6_freePegs_37 (fun H locs hw => ?_)
  refine lv_aload_n hx hb dX6_freePegs_40 rfl (lv_at hl 0 rfl) ?_
  refine lv_iload_n hx hb dX6_freePegs_41 rfl (lv_at hl 1 rfl) ?_
  refine lv_bipush (v := 9) hx hb dX6_freePegs_42 (by decide) ?_
  refine lv_iconst (v := 0) hx hb dX6_freePegs_44 (by decide) ?_
  obtain ⟨M9, e10, hf⟩ := cl_bind_e hf
  refine cr_Vv C hw (c_X6_put hlt ht0 e10) cy_X6_put vy_X6_put ml_X6_106 (cl_lt ht0 (by decide)) (cl_e6 ht0) rfl rfl (As := [.int a1, .int 9, .int 0]) rfl hl.1 rfl ⟨⟨Nat.le_of_ble_eq_true rfl, Nat.le_of_ble_eq_true rfl⟩, Nat.le_of_ble_eq_true rfl, Nat.le_of_ble_eq_true rfl, Nat.le_of_ble_eq_true rfl⟩ dX6_freePegs_45 (fun H locs hw => ?_)
  refine lv_aload_n hx hb dX6_freePegs_48 rfl (lv_at hl 0 rfl) ?_
  refine lv_iload_n hx hb dX6_freePegs_49 rfl (lv_at hl 1 rfl) ?_
  refine lv_bipush (v := 7) hx hb dX6_freePegs_50 (by decide) ?_
  refine lv_iconst (v := (-1)) hx hb dX6_freePegs_52 (by decide) ?_
  obtain ⟨M11, e12, hf⟩ := cl_bind_e hf
  refine cr_Vv C hw (c_X6_put hlt ht0 e12) cy_X6_put vy_X6_put ml_X6_106 (cl_lt ht0 (by decide)) (cl_e6 ht0) rfl rfl (As := [.int a1, .int 7, .int (-1)]) rfl hl.1 rfl ⟨⟨Nat.le_of_ble_eq_true rfl, Nat.le_of_ble_eq_true rfl⟩, Nat.le_of_ble_eq_true rfl, Nat.le_of_ble_eq_true rfl, Nat.le_of_ble_eq_true rfl⟩ dX6_freePegs_53 (fun H locs hw => ?_)
  obtain rfl := Option.some.inj hf
  exact cr_retv C hw dX6_freePegs_56
set_option maxRecDepth 100000 in
theorem c_X6_freePegs {l : Launch} {dd : cl_D} {b : Nat} (hlt : l.stackTraces = false) {M : cl_M} {t0 : Nat} {a1 : Int32}  {M' : cl_M} (ht0 : cl_sh dd t0 = 6) (h : f_X6_freePegs M t0 a1 = some M') : cl_Mv l dd b yX6_freePegs cX6_freePegs 2 none 1 23 [.ref (b + t0), .int a1] M M' :=
  cl_of hlt (by decide) (Nat.le_of_ble_eq_true rfl) (fun p e s m below meth c ls C hw hl => k_X6_freePegs C M t0 a1 M' h _ _ _ ht0 hw (lv_sub hl [0, 1] rfl))
theorem cy_X6_freePegs : cl_cy yX6_freePegs cX6_freePegs 2 none 1 := ⟨in_ClothesLineModel, cd_X6_freePegs, by decide +kernel, by decide +kernel, by decide +kernel⟩
theorem vy_X6_freePegs : cl_vy yX6_freePegs := ⟨im_X6_freePegs, se_X6_freePegs⟩
def f_X6_water (M : cl_M) (t0 : Nat) (a1 : Int32) (a2 : Int32) : Option (cl_M) := (f_X6_rainAt M t0 a2).bind (fun v1 => if v1 ≤ 0 then (f_X6_sunnyAt M t0 a2).bind (fun v4 => (f_X6_spotsOf M t0 a1).bind (fun v6 => (f_X6_many M (v4 &&& v6)).bind (fun v8 => (f_X6_dry M t0 a1 v8 9).bind (fun M10 => (f_X6_windAt M10 t0 a2).bind (fun v12 => (f_X6_dry M10 t0 a1 v12 10).bind (fun M14 => some M14)))))) else (f_X6_of M t0 a1 0).bind (fun v16 => (f_X6_of M t0 a1 2).bind (fun v18 => (f_X6_of M t0 a1 3).bind (fun v20 => (f_X6_add M t0 a1 (if (v18 - v20) < (v1 * v16) then (v18 - v20) else (v1 * v16))).bind (fun M22 => some M22)))))
set_option maxHeartbeats 4000000 in
set_option maxRecDepth 100000 in
theorem k_X6_water {p : Program} {l : Launch} {e : Env} {s : State} {m : MethodId} {args : Array Value} {below : List Frame} {meth : Method} {c : Code} {dd : cl_D} {b : Nat} (C : cl_C p l s m args meth c cX6_water RX6 4 none dd b) : ∀ (M : cl_M) (t0 : Nat) (a1 : Int32) (a2 : Int32) (M' : cl_M), f_X6_water M t0 a1 a2 = some M' → ∀ (H : Heap) (locs : List Loc) (ls : Array Slot), cl_sh dd t0 = 6 → cl_H dd b M s H locs → lv_has ls 4 [(0, .ref (b + t0)), (1, .int a1), (2, .int a2)] → W p l e { frames := 3, cells := 0, slots := 0, locals := 69 } s m args below meth c H locs 0 0 (cl_Zv below args s dd b M') (F0 m 0 ls []) := by
  have hx := C.1
  have hb := C.2.1
  have hlt := C.2.2.2.2.2.2.2.2.2.2
  have hRr := C.2.2.2.2.2.2.2.2.2.1
  intro M t0 a1 a2 M' hf H locs ls ht0 hw hl
  unfold f_X6_water at hf
  refine lv_aload_n hx hb dX6_water_0 rfl (lv_at hl 0 rfl) ?_
  refine lv_iload_n hx hb dX6_water_1 rfl (lv_at hl 2 rfl) ?_
  obtain ⟨v1, e2, hf⟩ := cl_bind_e hf
  refine cr_Vi C hw (c_X6_rainAt hlt ht0 e2) cy_X6_rainAt vy_X6_rainAt ml_X6_67 (cl_lt ht0 (by decide)) (cl_e6 ht0) rfl rfl (As := [.int a2]) rfl hl.1 rfl ⟨⟨Nat.le_of_ble_eq_true rfl, Nat.le_of_ble_eq_true rfl⟩, Nat.le_of_ble_eq_true rfl, Nat.le_of_ble_eq_true rfl, Nat.le_of_ble_eq_true rfl⟩ dX6_water_2 (fun H locs hw => ?_)
  refine lv_istore_n (lv' := [(3, .int v1), (0, .ref (b + t0)), (1, .int a1), (2, .int a2)]) hx hb dX6_water_5 rfl hl (by decide) rfl (fun ls hl => ?_)
  refine lv_iload_n hx hb dX6_water_6 rfl (lv_at hl 0 rfl) ?_
  refine lv_if_le (tgt := 40) hx hb dX6_water_7 (by decide) (fun c3 => ?_) (fun c3 => ?_)
  · have hf := cl_yes c3 hf
    refine lv_aload_n hx hb dX6_water_40 rfl (lv_at hl 1 rfl) ?_
    refine lv_iload_n hx hb dX6_water_41 rfl (lv_at hl 2 rfl) ?_
    refine lv_aload_n hx hb dX6_water_42 rfl (lv_at hl 1 rfl) ?_
    refine lv_iload_n hx hb dX6_water_43 rfl (lv_at hl 3 rfl) ?_
    obtain ⟨v4, e5, hf⟩ := cl_bind_e hf
    refine cr_Vi C hw (c_X6_sunnyAt hlt ht0 e5) cy_X6_sunnyAt vy_X6_sunnyAt ml_X6_114 (cl_lt ht0 (by decide)) (cl_e6 ht0) rfl rfl (As := [.int a2]) rfl hl.1 rfl ⟨⟨Nat.le_of_ble_eq_true rfl, Nat.le_of_ble_eq_true rfl⟩, Nat.le_of_ble_eq_true rfl, Nat.le_of_ble_eq_true rfl, Nat.le_of_ble_eq_true rfl⟩ dX6_water_44 (fun H locs hw => ?_)
    refine lv_aload_n hx hb dX6_water_47 rfl (lv_at hl 1 rfl) ?_
    refine lv_iload_n hx hb dX6_water_48 rfl (lv_at hl 2 rfl) ?_
    obtain ⟨v6, e7, hf⟩ := cl_bind_e hf
    refine cr_Vi C hw (c_X6_spotsOf hlt ht0 e7) cy_X6_spotsOf vy_X6_spotsOf ml_X6_91 (cl_lt ht0 (by decide)) (cl_e6 ht0) rfl rfl (As := [.int a1]) rfl hl.1 rfl ⟨⟨Nat.le_of_ble_eq_true rfl, Nat.le_of_ble_eq_true rfl⟩, Nat.le_of_ble_eq_true rfl, Nat.le_of_ble_eq_true rfl, Nat.le_of_ble_eq_true rfl⟩ dX6_water_49 (fun H locs hw => ?_)
    refine lv_iand hx hb dX6_water_52 ?_
    obtain ⟨v8, e9, hf⟩ := cl_bind_e hf
    refine cr_Si C hw (c_X6_many hlt e9) cy_X6_many st_X6_many ml_X6_117 (As := [.int (v4 &&& v6)]) rfl hl.1 rfl ⟨⟨Nat.le_of_ble_eq_true rfl, Nat.le_of_ble_eq_true rfl⟩, Nat.le_of_ble_eq_true rfl, Nat.le_of_ble_eq_true rfl, Nat.le_of_ble_eq_true rfl⟩ dX6_water_53 (fun H locs hw => ?_)
    refine lv_bipush (v := 9) hx hb dX6_water_56 (by decide) ?_
    obtain ⟨M10, e11, hf⟩ := cl_bind_e hf
    refine cr_Vv C hw (c_X6_dry hlt ht0 e11) cy_X6_dry vy_X6_dry ml_X6_120 (cl_lt ht0 (by decide)) (cl_e6 ht0) rfl rfl (As := [.int a1, .int v8, .int 9]) rfl hl.1 rfl ⟨⟨Nat.le_of_ble_eq_true rfl, Nat.le_of_ble_eq_true rfl⟩, Nat.le_of_ble_eq_true rfl, Nat.le_of_ble_eq_true rfl, Nat.le_of_ble_eq_true rfl⟩ dX6_water_58 (fun H locs hw => ?_)
    refine lv_aload_n hx hb dX6_water_61 rfl (lv_at hl 1 rfl) ?_
    refine lv_iload_n hx hb dX6_water_62 rfl (lv_at hl 2 rfl) ?_
    refine lv_aload_n hx hb dX6_water_63 rfl (lv_at hl 1 rfl) ?_
    refine lv_iload_n hx hb dX6_water_64 rfl (lv_at hl 3 rfl) ?_
    obtain ⟨v12, e13, hf⟩ := cl_bind_e hf
    refine cr_Vi C hw (c_X6_windAt hlt ht0 e13) cy_X6_windAt vy_X6_windAt ml_X6_72 (cl_lt ht0 (by decide)) (cl_e6 ht0) rfl rfl (As := [.int a2]) rfl hl.1 rfl ⟨⟨Nat.le_of_ble_eq_true rfl, Nat.le_of_ble_eq_true rfl⟩, Nat.le_of_ble_eq_true rfl, Nat.le_of_ble_eq_true rfl, Nat.le_of_ble_eq_true rfl⟩ dX6_water_65 (fun H locs hw => ?_)
    refine lv_bipush (v := 10) hx hb dX6_water_68 (by decide) ?_
    obtain ⟨M14, e15, hf⟩ := cl_bind_e hf
    refine cr_Vv C hw (c_X6_dry hlt ht0 e15) cy_X6_dry vy_X6_dry ml_X6_120 (cl_lt ht0 (by decide)) (cl_e6 ht0) rfl rfl (As := [.int a1, .int v12, .int 10]) rfl hl.1 rfl ⟨⟨Nat.le_of_ble_eq_true rfl, Nat.le_of_ble_eq_true rfl⟩, Nat.le_of_ble_eq_true rfl, Nat.le_of_ble_eq_true rfl, Nat.le_of_ble_eq_true rfl⟩ dX6_water_70 (fun H locs hw => ?_)
    obtain rfl := Option.some.inj hf
    exact cr_retv C hw dX6_water_73
  · have hf := cl_no c3 hf
    refine lv_aload_n hx hb dX6_water_10 rfl (lv_at hl 1 rfl) ?_
    refine lv_iload_n hx hb dX6_water_11 rfl (lv_at hl 2 rfl) ?_
    refine lv_iload_n hx hb dX6_water_12 rfl (lv_at hl 0 rfl) ?_
    refine lv_aload_n hx hb dX6_water_13 rfl (lv_at hl 1 rfl) ?_
    refine lv_iload_n hx hb dX6_water_14 rfl (lv_at hl 2 rfl) ?_
    refine lv_iconst (v := 0) hx hb dX6_water_15 (by decide) ?_
    obtain ⟨v16, e17, hf⟩ := cl_bind_e hf
    refine cr_Vi C hw (c_X6_of hlt ht0 e17) cy_X6_of vy_X6_of ml_X6_81 (cl_lt ht0 (by decide)) (cl_e6 ht0) rfl rfl (As := [.int a1, .int 0]) rfl hl.1 rfl ⟨⟨Nat.le_of_ble_eq_true rfl, Nat.le_of_ble_eq_true rfl⟩, Nat.le_of_ble_eq_true rfl, Nat.le_of_ble_eq_true rfl, Nat.le_of_ble_eq_true rfl⟩ dX6_water_16 (fun H locs hw => ?_)
    refine lv_imul hx hb dX6_water_19 ?_
    refine lv_aload_n hx hb dX6_water_20 rfl (lv_at hl 1 rfl) ?_
    refine lv_iload_n hx hb dX6_water_21 rfl (lv_at hl 2 rfl) ?_
    refine lv_iconst (v := 2) hx hb dX6_water_22 (by decide) ?_
    obtain ⟨v18, e19, hf⟩ := cl_bind_e hf
    refine cr_Vi C hw (c_X6_of hlt ht0 e19) cy_X6_of vy_X6_of ml_X6_81 (cl_lt ht0 (by decide)) (cl_e6 ht0) rfl rfl (As := [.int a1, .int 2]) rfl hl.1 rfl ⟨⟨Nat.le_of_ble_eq_true rfl, Nat.le_of_ble_eq_true rfl⟩, Nat.le_of_ble_eq_true rfl, Nat.le_of_ble_eq_true rfl, Nat.le_of_ble_eq_true rfl⟩ dX6_water_23 (fun H locs hw => ?_)
    refine lv_aload_n hx hb dX6_water_26 rfl (lv_at hl 1 rfl) ?_
    refine lv_iload_n hx hb dX6_water_27 rfl (lv_at hl 2 rfl) ?_
    refine lv_iconst (v := 3) hx hb dX6_water_28 (by decide) ?_
    obtain ⟨v20, e21, hf⟩ := cl_bind_e hf
    refine cr_Vi C hw (c_X6_of hlt ht0 e21) cy_X6_of vy_X6_of ml_X6_81 (cl_lt ht0 (by decide)) (cl_e6 ht0) rfl rfl (As := [.int a1, .int 3]) rfl hl.1 rfl ⟨⟨Nat.le_of_ble_eq_true rfl, Nat.le_of_ble_eq_true rfl⟩, Nat.le_of_ble_eq_true rfl, Nat.le_of_ble_eq_true rfl, Nat.le_of_ble_eq_true rfl⟩ dX6_water_29 (fun H locs hw => ?_)
    refine lv_isub hx hb dX6_water_32 ?_
    refine cr_min C ml_X6_75 st_math_min in_math cd_math_min hl.1 ⟨Nat.le_of_ble_eq_true rfl, Nat.le_of_ble_eq_true rfl, Nat.le_of_ble_eq_true rfl, Nat.le_of_ble_eq_true rfl⟩ dX6_water_33 ?_
    obtain ⟨M22, e23, hf⟩ := cl_bind_e hf
    refine cr_Vv C hw (c_X6_add hlt ht0 e23) cy_X6_add vy_X6_add ml_X6_110 (cl_lt ht0 (by decide)) (cl_e6 ht0) rfl rfl (As := [.int a1, .int (if (v18 - v20) < (v1 * v16) then (v18 - v20) else (v1 * v16))]) rfl hl.1 rfl ⟨⟨Nat.le_of_ble_eq_true rfl, Nat.le_of_ble_eq_true rfl⟩, Nat.le_of_ble_eq_true rfl, Nat.le_of_ble_eq_true rfl, Nat.le_of_ble_eq_true rfl⟩ dX6_water_36 (fun H locs hw => ?_)
    obtain rfl := Option.some.inj hf
    exact cr_retv C hw dX6_water_39
set_option maxRecDepth 100000 in
theorem c_X6_water {l : Launch} {dd : cl_D} {b : Nat} (hlt : l.stackTraces = false) {M : cl_M} {t0 : Nat} {a1 : Int32} {a2 : Int32}  {M' : cl_M} (ht0 : cl_sh dd t0 = 6) (h : f_X6_water M t0 a1 a2 = some M') : cl_Mv l dd b yX6_water cX6_water 4 none 3 69 [.ref (b + t0), .int a1, .int a2] M M' :=
  cl_of hlt (by decide) (Nat.le_of_ble_eq_true rfl) (fun p e s m below meth c ls C hw hl => k_X6_water C M t0 a1 a2 M' h _ _ _ ht0 hw (lv_sub hl [0, 1, 2] rfl))
theorem cy_X6_water : cl_cy yX6_water cX6_water 4 none 2 := ⟨in_ClothesLineModel, cd_X6_water, by decide +kernel, by decide +kernel, by decide +kernel⟩
theorem vy_X6_water : cl_vy yX6_water := ⟨im_X6_water, se_X6_water⟩
def f_X6_smell (M : cl_M) (t0 : Nat) (a1 : Int32) (a2 : Int32) : Option (cl_M) := (f_X6_of M t0 a1 4).bind (fun v1 => (f_X6_smokyAt M t0 a2).bind (fun v3 => (f_X6_spotsOf M t0 a1).bind (fun v5 => if (v3 &&& v5) = 0 then (f_X6_windAt M t0 a2).bind (fun v8 => if v8 ≤ 0 then some M else (f_X6_put M t0 a1 4 (if 0 < (v1 - 1) then (v1 - 1) else 0)).bind (fun M11 => some M11)) else (f_X6_put M t0 a1 4 (if (v1 + 1) < 99 then (v1 + 1) else 99)).bind (fun M13 => some M13))))
set_option maxHeartbeats 4000000 in
set_option maxRecDepth 100000 in
theorem k_X6_smell {p : Program} {l : Launch} {e : Env} {s : State} {m : MethodId} {args : Array Value} {below : List Frame} {meth : Method} {c : Code} {dd : cl_D} {b : Nat} (C : cl_C p l s m args meth c cX6_smell RX6 4 none dd b) : ∀ (M : cl_M) (t0 : Nat) (a1 : Int32) (a2 : Int32) (M' : cl_M), f_X6_smell M t0 a1 a2 = some M' → ∀ (H : Heap) (locs : List Loc) (ls : Array Slot), cl_sh dd t0 = 6 → cl_H dd b M s H locs → lv_has ls 4 [(0, .ref (b + t0)), (1, .int a1), (2, .int a2)] → W p l e { frames := 3, cells := 0, slots := 0, locals := 65 } s m args below meth c H locs 0 0 (cl_Zv below args s dd b M') (F0 m 0 ls []) := by
  have hx := C.1
  have hb := C.2.1
  have hlt := C.2.2.2.2.2.2.2.2.2.2
  have hRr := C.2.2.2.2.2.2.2.2.2.1
  intro M t0 a1 a2 M' hf H locs ls ht0 hw hl
  unfold f_X6_smell at hf
  refine lv_aload_n hx hb dX6_smell_0 rfl (lv_at hl 0 rfl) ?_
  refine lv_iload_n hx hb dX6_smell_1 rfl (lv_at hl 1 rfl) ?_
  refine lv_iconst (v := 4) hx hb dX6_smell_2 (by decide) ?_
  obtain ⟨v1, e2, hf⟩ := cl_bind_e hf
  refine cr_Vi C hw (c_X6_of hlt ht0 e2) cy_X6_of vy_X6_of ml_X6_81 (cl_lt ht0 (by decide)) (cl_e6 ht0) rfl rfl (As := [.int a1, .int 4]) rfl hl.1 rfl ⟨⟨Nat.le_of_ble_eq_true rfl, Nat.le_of_ble_eq_true rfl⟩, Nat.le_of_ble_eq_true rfl, Nat.le_of_ble_eq_true rfl, Nat.le_of_ble_eq_true rfl⟩ dX6_smell_3 (fun H locs hw => ?_)
  refine lv_istore_n (lv' := [(3, .int v1), (0, .ref (b + t0)), (1, .int a1), (2, .int a2)]) hx hb dX6_smell_6 rfl hl (by decide) rfl (fun ls hl => ?_)
  refine lv_aload_n hx hb dX6_smell_7 rfl (lv_at hl 1 rfl) ?_
  refine lv_iload_n hx hb dX6_smell_8 rfl (lv_at hl 3 rfl) ?_
  obtain ⟨v3, e4, hf⟩ := cl_bind_e hf
  refine cr_Vi C hw (c_X6_smokyAt hlt ht0 e4) cy_X6_smokyAt vy_X6_smokyAt ml_X6_123 (cl_lt ht0 (by decide)) (cl_e6 ht0) rfl rfl (As := [.int a2]) rfl hl.1 rfl ⟨⟨Nat.le_of_ble_eq_true rfl, Nat.le_of_ble_eq_true rfl⟩, Nat.le_of_ble_eq_true rfl, Nat.le_of_ble_eq_true rfl, Nat.le_of_ble_eq_true rfl⟩ dX6_smell_9 (fun H locs hw => ?_)
  refine lv_aload_n hx hb dX6_smell_12 rfl (lv_at hl 1 rfl) ?_
  refine lv_iload_n hx hb dX6_smell_13 rfl (lv_at hl 2 rfl) ?_
  obtain ⟨v5, e6, hf⟩ := cl_bind_e hf
  refine cr_Vi C hw (c_X6_spotsOf hlt ht0 e6) cy_X6_spotsOf vy_X6_spotsOf ml_X6_91 (cl_lt ht0 (by decide)) (cl_e6 ht0) rfl rfl (As := [.int a1]) rfl hl.1 rfl ⟨⟨Nat.le_of_ble_eq_true rfl, Nat.le_of_ble_eq_true rfl⟩, Nat.le_of_ble_eq_true rfl, Nat.le_of_ble_eq_true rfl, Nat.le_of_ble_eq_true rfl⟩ dX6_smell_14 (fun H locs hw => ?_)
  refine lv_iand hx hb dX6_smell_17 ?_
  refine lv_if_eq (tgt := 38) hx hb dX6_smell_18 (by decide) (fun c7 => ?_) (fun c7 => ?_)
  · have hf := cl_yes c7 hf
    refine lv_aload_n hx hb dX6_smell_38 rfl (lv_at hl 1 rfl) ?_
    refine lv_iload_n hx hb dX6_smell_39 rfl (lv_at hl 3 rfl) ?_
    obtain ⟨v8, e9, hf⟩ := cl_bind_e hf
    refine cr_Vi C hw (c_X6_windAt hlt ht0 e9) cy_X6_windAt vy_X6_windAt ml_X6_72 (cl_lt ht0 (by decide)) (cl_e6 ht0) rfl rfl (As := [.int a2]) rfl hl.1 rfl ⟨⟨Nat.le_of_ble_eq_true rfl, Nat.le_of_ble_eq_true rfl⟩, Nat.le_of_ble_eq_true rfl, Nat.le_of_ble_eq_true rfl, Nat.le_of_ble_eq_true rfl⟩ dX6_smell_40 (fun H locs hw => ?_)
    refine lv_if_le (tgt := 59) hx hb dX6_smell_43 (by decide) (fun c10 => ?_) (fun c10 => ?_)
    · have hf := cl_yes c10 hf
      obtain rfl := Option.some.inj hf
      exact cr_retv C hw dX6_smell_59
    · have hf := cl_no c10 hf
      refine lv_aload_n hx hb dX6_smell_46 rfl (lv_at hl 1 rfl) ?_
      refine lv_iload_n hx hb dX6_smell_47 rfl (lv_at hl 2 rfl) ?_
      refine lv_iconst (v := 4) hx hb dX6_smell_48 (by decide) ?_
      refine lv_iconst (v := 0) hx hb dX6_smell_49 (by decide) ?_
      refine lv_iload_n hx hb dX6_smell_50 rfl (lv_at hl 0 rfl) ?_
      refine lv_iconst (v := 1) hx hb dX6_smell_51 (by decide) ?_
      refine lv_isub hx hb dX6_smell_52 ?_
      refine cr_max C ml_X6_126 st_math_max in_math cd_math_max hl.1 ⟨Nat.le_of_ble_eq_true rfl, Nat.le_of_ble_eq_true rfl, Nat.le_of_ble_eq_true rfl, Nat.le_of_ble_eq_true rfl⟩ dX6_smell_53 ?_
      obtain ⟨M11, e12, hf⟩ := cl_bind_e hf
      refine cr_Vv C hw (c_X6_put hlt ht0 e12) cy_X6_put vy_X6_put ml_X6_106 (cl_lt ht0 (by decide)) (cl_e6 ht0) rfl rfl (As := [.int a1, .int 4, .int (if 0 < (v1 - 1) then (v1 - 1) else 0)]) rfl hl.1 rfl ⟨⟨Nat.le_of_ble_eq_true rfl, Nat.le_of_ble_eq_true rfl⟩, Nat.le_of_ble_eq_true rfl, Nat.le_of_ble_eq_true rfl, Nat.le_of_ble_eq_true rfl⟩ dX6_smell_56 (fun H locs hw => ?_)
      obtain rfl := Option.some.inj hf
      exact cr_retv C hw dX6_smell_59
  · have hf := cl_no c7 hf
    refine lv_aload_n hx hb dX6_smell_21 rfl (lv_at hl 1 rfl) ?_
    refine lv_iload_n hx hb dX6_smell_22 rfl (lv_at hl 2 rfl) ?_
    refine lv_iconst (v := 4) hx hb dX6_smell_23 (by decide) ?_
    refine lv_bipush (v := 99) hx hb dX6_smell_24 (by decide) ?_
    refine lv_iload_n hx hb dX6_smell_26 rfl (lv_at hl 0 rfl) ?_
    refine lv_iconst (v := 1) hx hb dX6_smell_27 (by decide) ?_
    refine lv_iadd hx hb dX6_smell_28 ?_
    refine cr_min C ml_X6_75 st_math_min in_math cd_math_min hl.1 ⟨Nat.le_of_ble_eq_true rfl, Nat.le_of_ble_eq_true rfl, Nat.le_of_ble_eq_true rfl, Nat.le_of_ble_eq_true rfl⟩ dX6_smell_29 ?_
    obtain ⟨M13, e14, hf⟩ := cl_bind_e hf
    refine cr_Vv C hw (c_X6_put hlt ht0 e14) cy_X6_put vy_X6_put ml_X6_106 (cl_lt ht0 (by decide)) (cl_e6 ht0) rfl rfl (As := [.int a1, .int 4, .int (if (v1 + 1) < 99 then (v1 + 1) else 99)]) rfl hl.1 rfl ⟨⟨Nat.le_of_ble_eq_true rfl, Nat.le_of_ble_eq_true rfl⟩, Nat.le_of_ble_eq_true rfl, Nat.le_of_ble_eq_true rfl, Nat.le_of_ble_eq_true rfl⟩ dX6_smell_32 (fun H locs hw => ?_)
    refine lv_goto (tgt := 59) hx hb dX6_smell_35 (by decide) ?_
    obtain rfl := Option.some.inj hf
    exact cr_retv C hw dX6_smell_59
set_option maxRecDepth 100000 in
theorem c_X6_smell {l : Launch} {dd : cl_D} {b : Nat} (hlt : l.stackTraces = false) {M : cl_M} {t0 : Nat} {a1 : Int32} {a2 : Int32}  {M' : cl_M} (ht0 : cl_sh dd t0 = 6) (h : f_X6_smell M t0 a1 a2 = some M') : cl_Mv l dd b yX6_smell cX6_smell 4 none 3 65 [.ref (b + t0), .int a1, .int a2] M M' :=
  cl_of hlt (by decide) (Nat.le_of_ble_eq_true rfl) (fun p e s m below meth c ls C hw hl => k_X6_smell C M t0 a1 a2 M' h _ _ _ ht0 hw (lv_sub hl [0, 1, 2] rfl))
theorem cy_X6_smell : cl_cy yX6_smell cX6_smell 4 none 2 := ⟨in_ClothesLineModel, cd_X6_smell, by decide +kernel, by decide +kernel, by decide +kernel⟩
theorem vy_X6_smell : cl_vy yX6_smell := ⟨im_X6_smell, se_X6_smell⟩
def f_X6_falls (M : cl_M) (t0 : Nat) (a1 : Int32) : Option (Int32 × cl_M) := (f_X6_weight M t0 a1).bind (fun v1 => (f_X6_hold M t0 a1).bind (fun v3 => if v3 < v1 then (f_X6_freePegs M t0 a1).bind (fun M6 => (f_X6_put M6 t0 a1 6 2).bind (fun M8 => (f_X6_put M8 t0 a1 5 1).bind (fun M10 => (f_X6_of M10 t0 a1 10).bind (fun v12 => (f_X6_put M10 t0 a1 10 (v12 + 1)).bind (fun M14 => some (1, M14)))))) else some (0, M)))
set_option maxHeartbeats 4000000 in
set_option maxRecDepth 100000 in
theorem k_X6_falls {p : Program} {l : Launch} {e : Env} {s : State} {m : MethodId} {args : Array Value} {below : List Frame} {meth : Method} {c : Code} {dd : cl_D} {b : Nat} (C : cl_C p l s m args meth c cX6_falls RX6 2 (some .boolean) dd b) : ∀ (M : cl_M) (t0 : Nat) (a1 : Int32) (r : Int32) (M' : cl_M), f_X6_falls M t0 a1 = some (r, M') → ∀ (H : Heap) (locs : List Loc) (ls : Array Slot), cl_sh dd t0 = 6 → cl_H dd b M s H locs → lv_has ls 2 [(0, .ref (b + t0)), (1, .int a1)] → W p l e { frames := 2, cells := 0, slots := 0, locals := 44 } s m args below meth c H locs 0 0 (cl_Zi below args s dd b r M') (F0 m 0 ls []) := by
  have hx := C.1
  have hb := C.2.1
  have hlt := C.2.2.2.2.2.2.2.2.2.2
  have hRr := C.2.2.2.2.2.2.2.2.2.1
  intro M t0 a1 r M' hf H locs ls ht0 hw hl
  unfold f_X6_falls at hf
  refine lv_aload_n hx hb dX6_falls_0 rfl (lv_at hl 0 rfl) ?_
  refine lv_iload_n hx hb dX6_falls_1 rfl (lv_at hl 1 rfl) ?_
  obtain ⟨v1, e2, hf⟩ := cl_bind_e hf
  refine cr_Vi C hw (c_X6_weight hlt ht0 e2) cy_X6_weight vy_X6_weight ml_X6_103 (cl_lt ht0 (by decide)) (cl_e6 ht0) rfl rfl (As := [.int a1]) rfl hl.1 rfl ⟨⟨Nat.le_of_ble_eq_true rfl, Nat.le_of_ble_eq_true rfl⟩, Nat.le_of_ble_eq_true rfl, Nat.le_of_ble_eq_true rfl, Nat.le_of_ble_eq_true rfl⟩ dX6_falls_2 (fun H locs hw => ?_)
  refine lv_aload_n hx hb dX6_falls_5 rfl (lv_at hl 0 rfl) ?_
  refine lv_iload_n hx hb dX6_falls_6 rfl (lv_at hl 1 rfl) ?_
  obtain ⟨v3, e4, hf⟩ := cl_bind_e hf
  refine cr_Vi C hw (c_X6_hold hlt ht0 e4) cy_X6_hold vy_X6_hold ml_X6_129 (cl_lt ht0 (by decide)) (cl_e6 ht0) rfl rfl (As := [.int a1]) rfl hl.1 rfl ⟨⟨Nat.le_of_ble_eq_true rfl, Nat.le_of_ble_eq_true rfl⟩, Nat.le_of_ble_eq_true rfl, Nat.le_of_ble_eq_true rfl, Nat.le_of_ble_eq_true rfl⟩ dX6_falls_7 (fun H locs hw => ?_)
  refine lv_icmp_gt (tgt := 15) hx hb dX6_falls_10 (by decide) (fun c5 => ?_) (fun c5 => ?_)
  · have hf := cl_yes c5 hf
    refine lv_aload_n hx hb dX6_falls_15 rfl (lv_at hl 0 rfl) ?_
    refine lv_iload_n hx hb dX6_falls_16 rfl (lv_at hl 1 rfl) ?_
    obtain ⟨M6, e7, hf⟩ := cl_bind_e hf
    refine cr_Vv C hw (c_X6_freePegs hlt ht0 e7) cy_X6_freePegs vy_X6_freePegs ml_X6_132 (cl_lt ht0 (by decide)) (cl_e6 ht0) rfl rfl (As := [.int a1]) rfl hl.1 rfl ⟨⟨Nat.le_of_ble_eq_true rfl, Nat.le_of_ble_eq_true rfl⟩, Nat.le_of_ble_eq_true rfl, Nat.le_of_ble_eq_true rfl, Nat.le_of_ble_eq_true rfl⟩ dX6_falls_17 (fun H locs hw => ?_)
    refine lv_aload_n hx hb dX6_falls_20 rfl (lv_at hl 0 rfl) ?_
    refine lv_iload_n hx hb dX6_falls_21 rfl (lv_at hl 1 rfl) ?_
    refine lv_bipush (v := 6) hx hb dX6_falls_22 (by decide) ?_
    refine lv_iconst (v := 2) hx hb dX6_falls_24 (by decide) ?_
    obtain ⟨M8, e9, hf⟩ := cl_bind_e hf
    refine cr_Vv C hw (c_X6_put hlt ht0 e9) cy_X6_put vy_X6_put ml_X6_106 (cl_lt ht0 (by decide)) (cl_e6 ht0) rfl rfl (As := [.int a1, .int 6, .int 2]) rfl hl.1 rfl ⟨⟨Nat.le_of_ble_eq_true rfl, Nat.le_of_ble_eq_true rfl⟩, Nat.le_of_ble_eq_true rfl, Nat.le_of_ble_eq_true rfl, Nat.le_of_ble_eq_true rfl⟩ dX6_falls_25 (fun H locs hw => ?_)
    refine lv_aload_n hx hb dX6_falls_28 rfl (lv_at hl 0 rfl) ?_
    refine lv_iload_n hx hb dX6_falls_29 rfl (lv_at hl 1 rfl) ?_
    refine lv_iconst (v := 5) hx hb dX6_falls_30 (by decide) ?_
    refine lv_iconst (v := 1) hx hb dX6_falls_31 (by decide) ?_
    obtain ⟨M10, e11, hf⟩ := cl_bind_e hf
    refine cr_Vv C hw (c_X6_put hlt ht0 e11) cy_X6_put vy_X6_put ml_X6_106 (cl_lt ht0 (by decide)) (cl_e6 ht0) rfl rfl (As := [.int a1, .int 5, .int 1]) rfl hl.1 rfl ⟨⟨Nat.le_of_ble_eq_true rfl, Nat.le_of_ble_eq_true rfl⟩, Nat.le_of_ble_eq_true rfl, Nat.le_of_ble_eq_true rfl, Nat.le_of_ble_eq_true rfl⟩ dX6_falls_32 (fun H locs hw => ?_)
    refine lv_aload_n hx hb dX6_falls_35 rfl (lv_at hl 0 rfl) ?_
    refine lv_iload_n hx hb dX6_falls_36 rfl (lv_at hl 1 rfl) ?_
    refine lv_bipush (v := 10) hx hb dX6_falls_37 (by decide) ?_
    refine lv_aload_n hx hb dX6_falls_39 rfl (lv_at hl 0 rfl) ?_
    refine lv_iload_n hx hb dX6_falls_40 rfl (lv_at hl 1 rfl) ?_
    refine lv_bipush (v := 10) hx hb dX6_falls_41 (by decide) ?_
    obtain ⟨v12, e13, hf⟩ := cl_bind_e hf
    refine cr_Vi C hw (c_X6_of hlt ht0 e13) cy_X6_of vy_X6_of ml_X6_81 (cl_lt ht0 (by decide)) (cl_e6 ht0) rfl rfl (As := [.int a1, .int 10]) rfl hl.1 rfl ⟨⟨Nat.le_of_ble_eq_true rfl, Nat.le_of_ble_eq_true rfl⟩, Nat.le_of_ble_eq_true rfl, Nat.le_of_ble_eq_true rfl, Nat.le_of_ble_eq_true rfl⟩ dX6_falls_43 (fun H locs hw => ?_)
    refine lv_iconst (v := 1) hx hb dX6_falls_46 (by decide) ?_
    refine lv_iadd hx hb dX6_falls_47 ?_
    obtain ⟨M14, e15, hf⟩ := cl_bind_e hf
    refine cr_Vv C hw (c_X6_put hlt ht0 e15) cy_X6_put vy_X6_put ml_X6_106 (cl_lt ht0 (by decide)) (cl_e6 ht0) rfl rfl (As := [.int a1, .int 10, .int (v12 + 1)]) rfl hl.1 rfl ⟨⟨Nat.le_of_ble_eq_true rfl, Nat.le_of_ble_eq_true rfl⟩, Nat.le_of_ble_eq_true rfl, Nat.le_of_ble_eq_true rfl, Nat.le_of_ble_eq_true rfl⟩ dX6_falls_48 (fun H locs hw => ?_)
    refine lv_iconst (v := 1) hx hb dX6_falls_51 (by decide) ?_
    obtain ⟨rfl, rfl⟩ := cl_pair hf
    exact cr_retz C hw (by decide) dX6_falls_52
  · have hf := cl_no c5 hf
    refine lv_iconst (v := 0) hx hb dX6_falls_13 (by decide) ?_
    obtain ⟨rfl, rfl⟩ := cl_pair hf
    exact cr_retz C hw (by decide) dX6_falls_14
set_option maxRecDepth 100000 in
theorem c_X6_falls {l : Launch} {dd : cl_D} {b : Nat} (hlt : l.stackTraces = false) {M : cl_M} {t0 : Nat} {a1 : Int32}  {r : Int32} {M' : cl_M} (ht0 : cl_sh dd t0 = 6) (h : f_X6_falls M t0 a1 = some (r, M')) : cl_Mi l dd b yX6_falls cX6_falls 2 (some .boolean) 2 44 [.ref (b + t0), .int a1] M r M' :=
  cl_of hlt (by decide) (Nat.le_of_ble_eq_true rfl) (fun p e s m below meth c ls C hw hl => k_X6_falls C M t0 a1 r M' h _ _ _ ht0 hw (lv_sub hl [0, 1] rfl))
theorem cy_X6_falls : cl_cy yX6_falls cX6_falls 2 (some .boolean) 1 := ⟨in_ClothesLineModel, cd_X6_falls, by decide +kernel, by decide +kernel, by decide +kernel⟩
theorem vy_X6_falls : cl_vy yX6_falls := ⟨im_X6_falls, se_X6_falls⟩
def f_X6_passMinute_54 (r11 : cl_M → Nat → Int32 → Int32 → Int32 → Option (Int32 × cl_M)) (M : cl_M) (t0 : Nat) (a1 : Int32) (a2 : Int32) (a3 : Int32) : Option (Int32 × cl_M) := cl_let (a3 + 1) (fun v7 => r11 M t0 a1 a2 v7)
set_option maxHeartbeats 4000000 in
set_option maxRecDepth 100000 in
theorem k_X6_passMinute_54 {p : Program} {l : Launch} {e : Env} {s : State} {m : MethodId} {args : Array Value} {below : List Frame} {meth : Method} {c : Code} {dd : cl_D} {b : Nat} (C : cl_C p l s m args meth c cX6_passMinute RX6 4 (some .int) dd b) {r11 : cl_M → Nat → Int32 → Int32 → Int32 → Option (Int32 × cl_M)} (hr11 : ∀ (M : cl_M) (t0 : Nat) (a1 : Int32) (a2 : Int32) (a3 : Int32) (r : Int32) (M' : cl_M), r11 M t0 a1 a2 a3 = some (r, M') → ∀ (H : Heap) (locs : List Loc) (ls : Array Slot), cl_sh dd t0 = 6 → cl_H dd b M s H locs → lv_has ls 4 [(0, .ref (b + t0)), (1, .int a1), (2, .int a2), (3, .int a3)] → W p l e { frames := 4, cells := 0, slots := 0, locals := 92 } s m args below meth c H locs 0 0 (cl_Zi below args s dd b r M') (F0 m 11 ls [])) : ∀ (M : cl_M) (t0 : Nat) (a1 : Int32) (a2 : Int32) (a3 : Int32) (r : Int32) (M' : cl_M), f_X6_passMinute_54 r11 M t0 a1 a2 a3 = some (r, M') → ∀ (H : Heap) (locs : List Loc) (ls : Array Slot), cl_sh dd t0 = 6 → cl_H dd b M s H locs → lv_has ls 4 [(0, .ref (b + t0)), (1, .int a1), (2, .int a2), (3, .int a3)] → W p l e { frames := 4, cells := 0, slots := 0, locals := 92 } s m args below meth c H locs 0 0 (cl_Zi below args s dd b r M') (F0 m 54 ls []) := by
  have hx := C.1
  have hb := C.2.1
  have hlt := C.2.2.2.2.2.2.2.2.2.2
  have hRr := C.2.2.2.2.2.2.2.2.2.1
  intro M t0 a1 a2 a3 r M' hf H locs ls ht0 hw hl
  unfold f_X6_passMinute_54 at hf
  obtain ⟨v7, ev7, hf⟩ := cl_let_e hf
  refine lv_iinc (v := v7) (lv' := [(3, .int v7), (0, .ref (b + t0)), (1, .int a1), (2, .int a2)]) hx hb dX6_passMinute_54 hl (k := 3) rfl (by rw [ev7]; rfl) (by decide) rfl (fun ls hl => ?_)
  refine lv_goto (tgt := 11) hx hb dX6_passMinute_57 (by decide) ?_
  exact hr11 M t0 a1 a2 v7 _ _ hf _ _ _ ht0 hw (lv_sub hl [1, 2, 3, 0] rfl)
def f_X6_passMinute_11 : Nat → cl_M → Nat → Int32 → Int32 → Int32 → Option (Int32 × cl_M)
  | 0, _, _, _, _, _ => none
  | k + 1, M, t0, a1, a2, a3 => if (M (t0 + 2) 7) ≤ a3 then cl_let (cl_ms M (t0 + 2) 0 ((M (t0 + 2) 0) + 1)) (fun M3 => some (a1, M3)) else (f_X6_isIn M t0 a3 1).bind (fun v4 => if v4 = 0 then f_X6_passMinute_54 (f_X6_passMinute_11 k) M t0 a1 a2 a3 else (f_X6_water M t0 a3 a2).bind (fun M8 => (f_X6_smell M8 t0 a3 a2).bind (fun M10 => cl_b2 (f_X6_falls M10 t0 a3) (fun v12 M13 => (f_X6_flag M13 v12).bind (fun v15 => cl_let (a1 + v15) (fun v17 => f_X6_passMinute_54 (f_X6_passMinute_11 k) M13 t0 v17 a2 a3))))))
set_option maxHeartbeats 4000000 in
set_option maxRecDepth 100000 in
theorem k_X6_passMinute_11 {p : Program} {l : Launch} {e : Env} {s : State} {m : MethodId} {args : Array Value} {below : List Frame} {meth : Method} {c : Code} {dd : cl_D} {b : Nat} (C : cl_C p l s m args meth c cX6_passMinute RX6 4 (some .int) dd b) : ∀ (k : Nat), ∀ (M : cl_M) (t0 : Nat) (a1 : Int32) (a2 : Int32) (a3 : Int32) (r : Int32) (M' : cl_M), f_X6_passMinute_11 k M t0 a1 a2 a3 = some (r, M') → ∀ (H : Heap) (locs : List Loc) (ls : Array Slot), cl_sh dd t0 = 6 → cl_H dd b M s H locs → lv_has ls 4 [(0, .ref (b + t0)), (1, .int a1), (2, .int a2), (3, .int a3)] → W p l e { frames := 4, cells := 0, slots := 0, locals := 92 } s m args below meth c H locs 0 0 (cl_Zi below args s dd b r M') (F0 m 11 ls []) := by
  have hx := C.1
  have hb := C.2.1
  have hlt := C.2.2.2.2.2.2.2.2.2.2
  have hRr := C.2.2.2.2.2.2.2.2.2.1
  intro k
  induction k with
  | zero =>
    intro M t0 a1 a2 a3 r M' hf H locs ls ht0 hw hl
    rw [f_X6_passMinute_11] at hf
    cases hf
  | succ k ih =>
    intro M t0 a1 a2 a3 r M' hf H locs ls ht0 hw hl
    rw [f_X6_passMinute_11] at hf
    refine lv_iload_n hx hb dX6_passMinute_11 rfl (lv_at hl 3 rfl) ?_
    refine lv_aload_n hx hb dX6_passMinute_12 rfl (lv_at hl 0 rfl) ?_
    refine fg_X6_17 C hw ht0 dX6_passMinute_13 ?_
    refine lv_bipush (v := 7) hx hb dX6_passMinute_16 (by decide) ?_
    refine cr_iald C hw (sh_6_5 ht0).1 (sh_6_5 ht0).2 (by decide) (k := 7) rfl dX6_passMinute_18 ?_
    refine lv_icmp_ge (tgt := 60) hx hb dX6_passMinute_19 (by decide) (fun c2 => ?_) (fun c2 => ?_)
    · have hf := cl_yes c2 hf
      refine lv_aload_n hx hb dX6_passMinute_60 rfl (lv_at hl 0 rfl) ?_
      refine fg_X6_17 C hw ht0 dX6_passMinute_61 ?_
      refine lv_iconst (v := 0) hx hb dX6_passMinute_64 (by decide) ?_
      refine lv_dup2_11 hx hb dX6_passMinute_65 rfl rfl ?_
      refine cr_iald C hw (sh_6_5 ht0).1 (sh_6_5 ht0).2 (by decide) (k := 0) rfl dX6_passMinute_66 ?_
      refine lv_iconst (v := 1) hx hb dX6_passMinute_67 (by decide) ?_
      refine lv_iadd hx hb dX6_passMinute_68 ?_
      obtain ⟨M3, eM3, hf⟩ := cl_let_e hf
      refine cr_iast C hw (sh_6_5 ht0).1 (sh_6_5 ht0).2 (by decide) (k := 0) rfl eM3 dX6_passMinute_69 (fun H locs hw => ?_)
      refine lv_iload_n hx hb dX6_passMinute_70 rfl (lv_at hl 1 rfl) ?_
      obtain ⟨rfl, rfl⟩ := cl_pair hf
      exact cr_reti C hw dX6_passMinute_71
    · have hf := cl_no c2 hf
      refine lv_aload_n hx hb dX6_passMinute_22 rfl (lv_at hl 0 rfl) ?_
      refine lv_iload_n hx hb dX6_passMinute_23 rfl (lv_at hl 3 rfl) ?_
      refine lv_iconst (v := 1) hx hb dX6_passMinute_24 (by decide) ?_
      obtain ⟨v4, e5, hf⟩ := cl_bind_e hf
      refine cr_Vi C hw (c_X6_isIn hlt ht0 e5) cy_X6_isIn vy_X6_isIn ml_X6_84 (cl_lt ht0 (by decide)) (cl_e6 ht0) rfl rfl (As := [.int a3, .int 1]) rfl hl.1 rfl ⟨⟨Nat.le_of_ble_eq_true rfl, Nat.le_of_ble_eq_true rfl⟩, Nat.le_of_ble_eq_true rfl, Nat.le_of_ble_eq_true rfl, Nat.le_of_ble_eq_true rfl⟩ dX6_passMinute_25 (fun H locs hw => ?_)
      refine lv_if_eq (tgt := 54) hx hb dX6_passMinute_28 (by decide) (fun c6 => ?_) (fun c6 => ?_)
      · have hf := cl_yes c6 hf
        exact k_X6_passMinute_54 C ih M t0 a1 a2 a3 _ _ hf _ _ _ ht0 hw (lv_sub hl [0, 1, 2, 3] rfl)
      · have hf := cl_no c6 hf
        refine lv_aload_n hx hb dX6_passMinute_31 rfl (lv_at hl 0 rfl) ?_
        refine lv_iload_n hx hb dX6_passMinute_32 rfl (lv_at hl 3 rfl) ?_
        refine lv_iload_n hx hb dX6_passMinute_33 rfl (lv_at hl 2 rfl) ?_
        obtain ⟨M8, e9, hf⟩ := cl_bind_e hf
        refine cr_Vv C hw (c_X6_water hlt ht0 e9) cy_X6_water vy_X6_water ml_X6_136 (cl_lt ht0 (by decide)) (cl_e6 ht0) rfl rfl (As := [.int a3, .int a2]) rfl hl.1 rfl ⟨⟨Nat.le_of_ble_eq_true rfl, Nat.le_of_ble_eq_true rfl⟩, Nat.le_of_ble_eq_true rfl, Nat.le_of_ble_eq_true rfl, Nat.le_of_ble_eq_true rfl⟩ dX6_passMinute_34 (fun H locs hw => ?_)
        refine lv_aload_n hx hb dX6_passMinute_37 rfl (lv_at hl 0 rfl) ?_
        refine lv_iload_n hx hb dX6_passMinute_38 rfl (lv_at hl 3 rfl) ?_
        refine lv_iload_n hx hb dX6_passMinute_39 rfl (lv_at hl 2 rfl) ?_
        obtain ⟨M10, e11, hf⟩ := cl_bind_e hf
        refine cr_Vv C hw (c_X6_smell hlt ht0 e11) cy_X6_smell vy_X6_smell ml_X6_139 (cl_lt ht0 (by decide)) (cl_e6 ht0) rfl rfl (As := [.int a3, .int a2]) rfl hl.1 rfl ⟨⟨Nat.le_of_ble_eq_true rfl, Nat.le_of_ble_eq_true rfl⟩, Nat.le_of_ble_eq_true rfl, Nat.le_of_ble_eq_true rfl, Nat.le_of_ble_eq_true rfl⟩ dX6_passMinute_40 (fun H locs hw => ?_)
        refine lv_iload_n hx hb dX6_passMinute_43 rfl (lv_at hl 1 rfl) ?_
        refine lv_aload_n hx hb dX6_passMinute_44 rfl (lv_at hl 0 rfl) ?_
        refine lv_iload_n hx hb dX6_passMinute_45 rfl (lv_at hl 3 rfl) ?_
        obtain ⟨v12, M13, e14, hf⟩ := cl_b2_e hf
        refine cr_Vi C hw (c_X6_falls hlt ht0 e14) cy_X6_falls vy_X6_falls ml_X6_142 (cl_lt ht0 (by decide)) (cl_e6 ht0) rfl rfl (As := [.int a3]) rfl hl.1 rfl ⟨⟨Nat.le_of_ble_eq_true rfl, Nat.le_of_ble_eq_true rfl⟩, Nat.le_of_ble_eq_true rfl, Nat.le_of_ble_eq_true rfl, Nat.le_of_ble_eq_true rfl⟩ dX6_passMinute_46 (fun H locs hw => ?_)
        obtain ⟨v15, e16, hf⟩ := cl_bind_e hf
        refine cr_Si C hw (c_X6_flag hlt e16) cy_X6_flag st_X6_flag ml_X6_146 (As := [.int v12]) rfl hl.1 rfl ⟨⟨Nat.le_of_ble_eq_true rfl, Nat.le_of_ble_eq_true rfl⟩, Nat.le_of_ble_eq_true rfl, Nat.le_of_ble_eq_true rfl, Nat.le_of_ble_eq_true rfl⟩ dX6_passMinute_49 (fun H locs hw => ?_)
        refine lv_iadd hx hb dX6_passMinute_52 ?_
        obtain ⟨v17, ev17, hf⟩ := cl_let_e hf
        refine cr_top ev17 ?_
        refine lv_istore_n (lv' := [(1, .int v17), (0, .ref (b + t0)), (2, .int a2), (3, .int a3)]) hx hb dX6_passMinute_53 rfl hl (by decide) rfl (fun ls hl => ?_)
        exact k_X6_passMinute_54 C ih M13 t0 v17 a2 a3 _ _ hf _ _ _ ht0 hw (lv_sub hl [1, 0, 2, 3] rfl)
def f_X6_passMinute (M : cl_M) (t0 : Nat) : Option (Int32 × cl_M) := cl_let (M (t0 + 2) 0) (fun v1 => f_X6_passMinute_11 cl_F M t0 0 v1 0)
set_option maxHeartbeats 4000000 in
set_option maxRecDepth 100000 in
theorem k_X6_passMinute {p : Program} {l : Launch} {e : Env} {s : State} {m : MethodId} {args : Array Value} {below : List Frame} {meth : Method} {c : Code} {dd : cl_D} {b : Nat} (C : cl_C p l s m args meth c cX6_passMinute RX6 4 (some .int) dd b) : ∀ (M : cl_M) (t0 : Nat) (r : Int32) (M' : cl_M), f_X6_passMinute M t0 = some (r, M') → ∀ (H : Heap) (locs : List Loc) (ls : Array Slot), cl_sh dd t0 = 6 → cl_H dd b M s H locs → lv_has ls 4 [(0, .ref (b + t0))] → W p l e { frames := 4, cells := 0, slots := 0, locals := 92 } s m args below meth c H locs 0 0 (cl_Zi below args s dd b r M') (F0 m 0 ls []) := by
  have hx := C.1
  have hb := C.2.1
  have hlt := C.2.2.2.2.2.2.2.2.2.2
  have hRr := C.2.2.2.2.2.2.2.2.2.1
  intro M t0 r M' hf H locs ls ht0 hw hl
  unfold f_X6_passMinute at hf
  refine lv_iconst (v := 0) hx hb dX6_passMinute_0 (by decide) ?_
  refine lv_istore_n (lv' := [(1, .int 0), (0, .ref (b + t0))]) hx hb dX6_passMinute_1 rfl hl (by decide) rfl (fun ls hl => ?_)
  refine lv_aload_n hx hb dX6_passMinute_2 rfl (lv_at hl 1 rfl) ?_
  refine fg_X6_17 C hw ht0 dX6_passMinute_3 ?_
  refine lv_iconst (v := 0) hx hb dX6_passMinute_6 (by decide) ?_
  refine cr_iald C hw (sh_6_5 ht0).1 (sh_6_5 ht0).2 (by decide) (k := 0) rfl dX6_passMinute_7 ?_
  obtain ⟨v1, ev1, hf⟩ := cl_let_e hf
  refine cr_top ev1 ?_
  refine lv_istore_n (lv' := [(2, .int v1), (1, .int 0), (0, .ref (b + t0))]) hx hb dX6_passMinute_8 rfl hl (by decide) rfl (fun ls hl => ?_)
  refine lv_iconst (v := 0) hx hb dX6_passMinute_9 (by decide) ?_
  refine lv_istore_n (lv' := [(3, .int 0), (2, .int v1), (1, .int 0), (0, .ref (b + t0))]) hx hb dX6_passMinute_10 rfl hl (by decide) rfl (fun ls hl => ?_)
  exact k_X6_passMinute_11 C cl_F M t0 0 v1 0 _ _ hf _ _ _ ht0 hw (lv_sub hl [3, 2, 1, 0] rfl)
set_option maxRecDepth 100000 in
theorem c_X6_passMinute {l : Launch} {dd : cl_D} {b : Nat} (hlt : l.stackTraces = false) {M : cl_M} {t0 : Nat}  {r : Int32} {M' : cl_M} (ht0 : cl_sh dd t0 = 6) (h : f_X6_passMinute M t0 = some (r, M')) : cl_Mi l dd b yX6_passMinute cX6_passMinute 4 (some .int) 4 92 [.ref (b + t0)] M r M' :=
  cl_of hlt (by decide) (Nat.le_of_ble_eq_true rfl) (fun p e s m below meth c ls C hw hl => k_X6_passMinute C M t0 r M' h _ _ _ ht0 hw (lv_sub hl [0] rfl))
theorem cy_X6_passMinute : cl_cy yX6_passMinute cX6_passMinute 4 (some .int) 0 := ⟨in_ClothesLineModel, cd_X6_passMinute, by decide +kernel, by decide +kernel, by decide +kernel⟩
theorem vy_X6_passMinute : cl_vy yX6_passMinute := ⟨im_X6_passMinute, se_X6_passMinute⟩
def f_X6_passAll_4 : Nat → cl_M → Nat → Int32 → Int32 → Int32 → Option (Int32 × cl_M)
  | 0, _, _, _, _, _ => none
  | k + 1, M, t0, a1, a2, a3 => if a1 ≤ a3 then some (a2, M) else cl_b2 (f_X6_passMinute M t0) (fun v2 M3 => cl_let (a2 + v2) (fun v5 => cl_let (a3 + 1) (fun v6 => f_X6_passAll_4 k M3 t0 a1 v5 v6)))
set_option maxHeartbeats 4000000 in
set_option maxRecDepth 100000 in
theorem k_X6_passAll_4 {p : Program} {l : Launch} {e : Env} {s : State} {m : MethodId} {args : Array Value} {below : List Frame} {meth : Method} {c : Code} {dd : cl_D} {b : Nat} (C : cl_C p l s m args meth c cX6_passAll RX6 4 (some .int) dd b) : ∀ (k : Nat), ∀ (M : cl_M) (t0 : Nat) (a1 : Int32) (a2 : Int32) (a3 : Int32) (r : Int32) (M' : cl_M), f_X6_passAll_4 k M t0 a1 a2 a3 = some (r, M') → ∀ (H : Heap) (locs : List Loc) (ls : Array Slot), cl_sh dd t0 = 6 → cl_H dd b M s H locs → lv_has ls 4 [(0, .ref (b + t0)), (1, .int a1), (2, .int a2), (3, .int a3)] → W p l e { frames := 5, cells := 0, slots := 0, locals := 115 } s m args below meth c H locs 0 0 (cl_Zi below args s dd b r M') (F0 m 4 ls []) := by
  have hx := C.1
  have hb := C.2.1
  have hlt := C.2.2.2.2.2.2.2.2.2.2
  have hRr := C.2.2.2.2.2.2.2.2.2.1
  intro k
  induction k with
  | zero =>
    intro M t0 a1 a2 a3 r M' hf H locs ls ht0 hw hl
    rw [f_X6_passAll_4] at hf
    cases hf
  | succ k ih =>
    intro M t0 a1 a2 a3 r M' hf H locs ls ht0 hw hl
    rw [f_X6_passAll_4] at hf
    refine lv_iload_n hx hb dX6_passAll_4 rfl (lv_at hl 3 rfl) ?_
    refine lv_iload_n hx hb dX6_passAll_5 rfl (lv_at hl 1 rfl) ?_
    refine lv_icmp_ge (tgt := 22) hx hb dX6_passAll_6 (by decide) (fun c1 => ?_) (fun c1 => ?_)
    · have hf := cl_yes c1 hf
      refine lv_iload_n hx hb dX6_passAll_22 rfl (lv_at hl 2 rfl) ?_
      obtain ⟨rfl, rfl⟩ := cl_pair hf
      exact cr_reti C hw dX6_passAll_23
    · have hf := cl_no c1 hf
      refine lv_iload_n hx hb dX6_passAll_9 rfl (lv_at hl 2 rfl) ?_
      refine lv_aload_n hx hb dX6_passAll_10 rfl (lv_at hl 0 rfl) ?_
      obtain ⟨v2, M3, e4, hf⟩ := cl_b2_e hf
      refine cr_Vi C hw (c_X6_passMinute hlt ht0 e4) cy_X6_passMinute vy_X6_passMinute ml_X6_150 (cl_lt ht0 (by decide)) (cl_e6 ht0) rfl rfl (As := []) rfl hl.1 rfl ⟨⟨Nat.le_of_ble_eq_true rfl, Nat.le_of_ble_eq_true rfl⟩, Nat.le_of_ble_eq_true rfl, Nat.le_of_ble_eq_true rfl, Nat.le_of_ble_eq_true rfl⟩ dX6_passAll_11 (fun H locs hw => ?_)
      refine lv_iadd hx hb dX6_passAll_14 ?_
      obtain ⟨v5, ev5, hf⟩ := cl_let_e hf
      refine cr_top ev5 ?_
      refine lv_istore_n (lv' := [(2, .int v5), (0, .ref (b + t0)), (1, .int a1), (3, .int a3)]) hx hb dX6_passAll_15 rfl hl (by decide) rfl (fun ls hl => ?_)
      obtain ⟨v6, ev6, hf⟩ := cl_let_e hf
      refine lv_iinc (v := v6) (lv' := [(3, .int v6), (2, .int v5), (0, .ref (b + t0)), (1, .int a1)]) hx hb dX6_passAll_16 hl (k := 3) rfl (by rw [ev6]; rfl) (by decide) rfl (fun ls hl => ?_)
      refine lv_goto (tgt := 4) hx hb dX6_passAll_19 (by decide) ?_
      exact ih M3 t0 a1 v5 v6 _ _ hf _ _ _ ht0 hw (lv_sub hl [2, 3, 1, 0] rfl)
def f_X6_passAll (M : cl_M) (t0 : Nat) (a1 : Int32) : Option (Int32 × cl_M) := f_X6_passAll_4 cl_F M t0 a1 0 0
set_option maxHeartbeats 4000000 in
set_option maxRecDepth 100000 in
theorem k_X6_passAll {p : Program} {l : Launch} {e : Env} {s : State} {m : MethodId} {args : Array Value} {below : List Frame} {meth : Method} {c : Code} {dd : cl_D} {b : Nat} (C : cl_C p l s m args meth c cX6_passAll RX6 4 (some .int) dd b) : ∀ (M : cl_M) (t0 : Nat) (a1 : Int32) (r : Int32) (M' : cl_M), f_X6_passAll M t0 a1 = some (r, M') → ∀ (H : Heap) (locs : List Loc) (ls : Array Slot), cl_sh dd t0 = 6 → cl_H dd b M s H locs → lv_has ls 4 [(0, .ref (b + t0)), (1, .int a1)] → W p l e { frames := 5, cells := 0, slots := 0, locals := 115 } s m args below meth c H locs 0 0 (cl_Zi below args s dd b r M') (F0 m 0 ls []) := by
  have hx := C.1
  have hb := C.2.1
  have hlt := C.2.2.2.2.2.2.2.2.2.2
  have hRr := C.2.2.2.2.2.2.2.2.2.1
  intro M t0 a1 r M' hf H locs ls ht0 hw hl
  unfold f_X6_passAll at hf
  refine lv_iconst (v := 0) hx hb dX6_passAll_0 (by decide) ?_
  refine lv_istore_n (lv' := [(2, .int 0), (0, .ref (b + t0)), (1, .int a1)]) hx hb dX6_passAll_1 rfl hl (by decide) rfl (fun ls hl => ?_)
  refine lv_iconst (v := 0) hx hb dX6_passAll_2 (by decide) ?_
  refine lv_istore_n (lv' := [(3, .int 0), (2, .int 0), (0, .ref (b + t0)), (1, .int a1)]) hx hb dX6_passAll_3 rfl hl (by decide) rfl (fun ls hl => ?_)
  exact k_X6_passAll_4 C cl_F M t0 a1 0 0 _ _ hf _ _ _ ht0 hw (lv_sub hl [2, 3, 1, 0] rfl)
set_option maxRecDepth 100000 in
theorem c_X6_passAll {l : Launch} {dd : cl_D} {b : Nat} (hlt : l.stackTraces = false) {M : cl_M} {t0 : Nat} {a1 : Int32}  {r : Int32} {M' : cl_M} (ht0 : cl_sh dd t0 = 6) (h : f_X6_passAll M t0 a1 = some (r, M')) : cl_Mi l dd b yX6_passAll cX6_passAll 4 (some .int) 5 115 [.ref (b + t0), .int a1] M r M' :=
  cl_of hlt (by decide) (Nat.le_of_ble_eq_true rfl) (fun p e s m below meth c ls C hw hl => k_X6_passAll C M t0 a1 r M' h _ _ _ ht0 hw (lv_sub hl [0, 1] rfl))
theorem cy_X6_passAll : cl_cy yX6_passAll cX6_passAll 4 (some .int) 1 := ⟨in_ClothesLineModel, cd_X6_passAll, by decide +kernel, by decide +kernel, by decide +kernel⟩
theorem vy_X6_passAll : cl_vy yX6_passAll := ⟨im_X6_passAll, se_X6_passAll⟩
def f_X6_doGarment_12 : Nat → cl_M → Nat → Int32 → Int32 → Int32 → Int32 → Int32 → Int32 → Option (Int32 × cl_M)
  | 0, _, _, _, _, _, _, _, _ => none
  | k + 1, M, t0, a1, a2, a3, a4, a5, a6 => if 11 ≤ a6 then (f_X6_put M t0 a5 0 a1).bind (fun M3 => (f_X6_put M3 t0 a5 1 a2).bind (fun M5 => (f_X6_put M5 t0 a5 2 a3).bind (fun M7 => (f_X6_put M7 t0 a5 7 (-1)).bind (fun M9 => cl_let (cl_ms M9 (t0 + 2) 7 ((M9 (t0 + 2) 7) + 1)) (fun M11 => (f_X6_add M11 t0 a5 a4).bind (fun M12 => some (a5, M12))))))) else (f_X6_put M t0 a5 a6 0).bind (fun M14 => cl_let (a6 + 1) (fun v16 => f_X6_doGarment_12 k M14 t0 a1 a2 a3 a4 a5 v16))
set_option maxHeartbeats 4000000 in
set_option maxRecDepth 100000 in
theorem k_X6_doGarment_12 {p : Program} {l : Launch} {e : Env} {s : State} {m : MethodId} {args : Array Value} {below : List Frame} {meth : Method} {c : Code} {dd : cl_D} {b : Nat} (C : cl_C p l s m args meth c cX6_doGarment RX6 7 (some .int) dd b) : ∀ (k : Nat), ∀ (M : cl_M) (t0 : Nat) (a1 : Int32) (a2 : Int32) (a3 : Int32) (a4 : Int32) (a5 : Int32) (a6 : Int32) (r : Int32) (M' : cl_M), f_X6_doGarment_12 k M t0 a1 a2 a3 a4 a5 a6 = some (r, M') → ∀ (H : Heap) (locs : List Loc) (ls : Array Slot), cl_sh dd t0 = 6 → cl_H dd b M s H locs → lv_has ls 7 [(0, .ref (b + t0)), (1, .int a1), (2, .int a2), (3, .int a3), (4, .int a4), (5, .int a5), (6, .int a6)] → W p l e { frames := 2, cells := 0, slots := 0, locals := 45 } s m args below meth c H locs 0 0 (cl_Zi below args s dd b r M') (F0 m 12 ls []) := by
  have hx := C.1
  have hb := C.2.1
  have hlt := C.2.2.2.2.2.2.2.2.2.2
  have hRr := C.2.2.2.2.2.2.2.2.2.1
  intro k
  induction k with
  | zero =>
    intro M t0 a1 a2 a3 a4 a5 a6 r M' hf H locs ls ht0 hw hl
    rw [f_X6_doGarment_12] at hf
    cases hf
  | succ k ih =>
    intro M t0 a1 a2 a3 a4 a5 a6 r M' hf H locs ls ht0 hw hl
    rw [f_X6_doGarment_12] at hf
    refine lv_iload hx hb dX6_doGarment_12 (lv_at hl 6 rfl) ?_
    refine lv_bipush (v := 11) hx hb dX6_doGarment_14 (by decide) ?_
    refine lv_icmp_ge (tgt := 34) hx hb dX6_doGarment_16 (by decide) (fun c2 => ?_) (fun c2 => ?_)
    · have hf := cl_yes c2 hf
      refine lv_aload_n hx hb dX6_doGarment_34 rfl (lv_at hl 0 rfl) ?_
      refine lv_iload hx hb dX6_doGarment_35 (lv_at hl 5 rfl) ?_
      refine lv_iconst (v := 0) hx hb dX6_doGarment_37 (by decide) ?_
      refine lv_iload_n hx hb dX6_doGarment_38 rfl (lv_at hl 1 rfl) ?_
      obtain ⟨M3, e4, hf⟩ := cl_bind_e hf
      refine cr_Vv C hw (c_X6_put hlt ht0 e4) cy_X6_put vy_X6_put ml_X6_106 (cl_lt ht0 (by decide)) (cl_e6 ht0) rfl rfl (As := [.int a5, .int 0, .int a1]) rfl hl.1 rfl ⟨⟨Nat.le_of_ble_eq_true rfl, Nat.le_of_ble_eq_true rfl⟩, Nat.le_of_ble_eq_true rfl, Nat.le_of_ble_eq_true rfl, Nat.le_of_ble_eq_true rfl⟩ dX6_doGarment_39 (fun H locs hw => ?_)
      refine lv_aload_n hx hb dX6_doGarment_42 rfl (lv_at hl 0 rfl) ?_
      refine lv_iload hx hb dX6_doGarment_43 (lv_at hl 5 rfl) ?_
      refine lv_iconst (v := 1) hx hb dX6_doGarment_45 (by decide) ?_
      refine lv_iload_n hx hb dX6_doGarment_46 rfl (lv_at hl 2 rfl) ?_
      obtain ⟨M5, e6, hf⟩ := cl_bind_e hf
      refine cr_Vv C hw (c_X6_put hlt ht0 e6) cy_X6_put vy_X6_put ml_X6_106 (cl_lt ht0 (by decide)) (cl_e6 ht0) rfl rfl (As := [.int a5, .int 1, .int a2]) rfl hl.1 rfl ⟨⟨Nat.le_of_ble_eq_true rfl, Nat.le_of_ble_eq_true rfl⟩, Nat.le_of_ble_eq_true rfl, Nat.le_of_ble_eq_true rfl, Nat.le_of_ble_eq_true rfl⟩ dX6_doGarment_47 (fun H locs hw => ?_)
      refine lv_aload_n hx hb dX6_doGarment_50 rfl (lv_at hl 0 rfl) ?_
      refine lv_iload hx hb dX6_doGarment_51 (lv_at hl 5 rfl) ?_
      refine lv_iconst (v := 2) hx hb dX6_doGarment_53 (by decide) ?_
      refine lv_iload_n hx hb dX6_doGarment_54 rfl (lv_at hl 3 rfl) ?_
      obtain ⟨M7, e8, hf⟩ := cl_bind_e hf
      refine cr_Vv C hw (c_X6_put hlt ht0 e8) cy_X6_put vy_X6_put ml_X6_106 (cl_lt ht0 (by decide)) (cl_e6 ht0) rfl rfl (As := [.int a5, .int 2, .int a3]) rfl hl.1 rfl ⟨⟨Nat.le_of_ble_eq_true rfl, Nat.le_of_ble_eq_true rfl⟩, Nat.le_of_ble_eq_true rfl, Nat.le_of_ble_eq_true rfl, Nat.le_of_ble_eq_true rfl⟩ dX6_doGarment_55 (fun H locs hw => ?_)
      refine lv_aload_n hx hb dX6_doGarment_58 rfl (lv_at hl 0 rfl) ?_
      refine lv_iload hx hb dX6_doGarment_59 (lv_at hl 5 rfl) ?_
      refine lv_bipush (v := 7) hx hb dX6_doGarment_61 (by decide) ?_
      refine lv_iconst (v := (-1)) hx hb dX6_doGarment_63 (by decide) ?_
      obtain ⟨M9, e10, hf⟩ := cl_bind_e hf
      refine cr_Vv C hw (c_X6_put hlt ht0 e10) cy_X6_put vy_X6_put ml_X6_106 (cl_lt ht0 (by decide)) (cl_e6 ht0) rfl rfl (As := [.int a5, .int 7, .int (-1)]) rfl hl.1 rfl ⟨⟨Nat.le_of_ble_eq_true rfl, Nat.le_of_ble_eq_true rfl⟩, Nat.le_of_ble_eq_true rfl, Nat.le_of_ble_eq_true rfl, Nat.le_of_ble_eq_true rfl⟩ dX6_doGarment_64 (fun H locs hw => ?_)
      refine lv_aload_n hx hb dX6_doGarment_67 rfl (lv_at hl 0 rfl) ?_
      refine fg_X6_17 C hw ht0 dX6_doGarment_68 ?_
      refine lv_bipush (v := 7) hx hb dX6_doGarment_71 (by decide) ?_
      refine lv_dup2_11 hx hb dX6_doGarment_73 rfl rfl ?_
      refine cr_iald C hw (sh_6_5 ht0).1 (sh_6_5 ht0).2 (by decide) (k := 7) rfl dX6_doGarment_74 ?_
      refine lv_iconst (v := 1) hx hb dX6_doGarment_75 (by decide) ?_
      refine lv_iadd hx hb dX6_doGarment_76 ?_
      obtain ⟨M11, eM11, hf⟩ := cl_let_e hf
      refine cr_iast C hw (sh_6_5 ht0).1 (sh_6_5 ht0).2 (by decide) (k := 7) rfl eM11 dX6_doGarment_77 (fun H locs hw => ?_)
      refine lv_aload_n hx hb dX6_doGarment_78 rfl (lv_at hl 0 rfl) ?_
      refine lv_iload hx hb dX6_doGarment_79 (lv_at hl 5 rfl) ?_
      refine lv_iload hx hb dX6_doGarment_81 (lv_at hl 4 rfl) ?_
      obtain ⟨M12, e13, hf⟩ := cl_bind_e hf
      refine cr_Vv C hw (c_X6_add hlt ht0 e13) cy_X6_add vy_X6_add ml_X6_110 (cl_lt ht0 (by decide)) (cl_e6 ht0) rfl rfl (As := [.int a5, .int a4]) rfl hl.1 rfl ⟨⟨Nat.le_of_ble_eq_true rfl, Nat.le_of_ble_eq_true rfl⟩, Nat.le_of_ble_eq_true rfl, Nat.le_of_ble_eq_true rfl, Nat.le_of_ble_eq_true rfl⟩ dX6_doGarment_83 (fun H locs hw => ?_)
      refine lv_iload hx hb dX6_doGarment_86 (lv_at hl 5 rfl) ?_
      obtain ⟨rfl, rfl⟩ := cl_pair hf
      exact cr_reti C hw dX6_doGarment_88
    · have hf := cl_no c2 hf
      refine lv_aload_n hx hb dX6_doGarment_19 rfl (lv_at hl 0 rfl) ?_
      refine lv_iload hx hb dX6_doGarment_20 (lv_at hl 5 rfl) ?_
      refine lv_iload hx hb dX6_doGarment_22 (lv_at hl 6 rfl) ?_
      refine lv_iconst (v := 0) hx hb dX6_doGarment_24 (by decide) ?_
      obtain ⟨M14, e15, hf⟩ := cl_bind_e hf
      refine cr_Vv C hw (c_X6_put hlt ht0 e15) cy_X6_put vy_X6_put ml_X6_106 (cl_lt ht0 (by decide)) (cl_e6 ht0) rfl rfl (As := [.int a5, .int a6, .int 0]) rfl hl.1 rfl ⟨⟨Nat.le_of_ble_eq_true rfl, Nat.le_of_ble_eq_true rfl⟩, Nat.le_of_ble_eq_true rfl, Nat.le_of_ble_eq_true rfl, Nat.le_of_ble_eq_true rfl⟩ dX6_doGarment_25 (fun H locs hw => ?_)
      obtain ⟨v16, ev16, hf⟩ := cl_let_e hf
      refine lv_iinc (v := v16) (lv' := [(6, .int v16), (0, .ref (b + t0)), (1, .int a1), (2, .int a2), (3, .int a3), (4, .int a4), (5, .int a5)]) hx hb dX6_doGarment_28 hl (k := 6) rfl (by rw [ev16]; rfl) (by decide) rfl (fun ls hl => ?_)
      refine lv_goto (tgt := 12) hx hb dX6_doGarment_31 (by decide) ?_
      exact ih M14 t0 a1 a2 a3 a4 a5 v16 _ _ hf _ _ _ ht0 hw (lv_sub hl [1, 2, 3, 4, 5, 6, 0] rfl)
def f_X6_doGarment (M : cl_M) (t0 : Nat) (a1 : Int32) (a2 : Int32) (a3 : Int32) (a4 : Int32) : Option (Int32 × cl_M) := cl_let (M (t0 + 2) 7) (fun v1 => f_X6_doGarment_12 cl_F M t0 a1 a2 a3 a4 v1 0)
set_option maxHeartbeats 4000000 in
set_option maxRecDepth 100000 in
theorem k_X6_doGarment {p : Program} {l : Launch} {e : Env} {s : State} {m : MethodId} {args : Array Value} {below : List Frame} {meth : Method} {c : Code} {dd : cl_D} {b : Nat} (C : cl_C p l s m args meth c cX6_doGarment RX6 7 (some .int) dd b) : ∀ (M : cl_M) (t0 : Nat) (a1 : Int32) (a2 : Int32) (a3 : Int32) (a4 : Int32) (r : Int32) (M' : cl_M), f_X6_doGarment M t0 a1 a2 a3 a4 = some (r, M') → ∀ (H : Heap) (locs : List Loc) (ls : Array Slot), cl_sh dd t0 = 6 → cl_H dd b M s H locs → lv_has ls 7 [(0, .ref (b + t0)), (1, .int a1), (2, .int a2), (3, .int a3), (4, .int a4)] → W p l e { frames := 2, cells := 0, slots := 0, locals := 45 } s m args below meth c H locs 0 0 (cl_Zi below args s dd b r M') (F0 m 0 ls []) := by
  have hx := C.1
  have hb := C.2.1
  have hlt := C.2.2.2.2.2.2.2.2.2.2
  have hRr := C.2.2.2.2.2.2.2.2.2.1
  intro M t0 a1 a2 a3 a4 r M' hf H locs ls ht0 hw hl
  unfold f_X6_doGarment at hf
  refine lv_aload_n hx hb dX6_doGarment_0 rfl (lv_at hl 0 rfl) ?_
  refine fg_X6_17 C hw ht0 dX6_doGarment_1 ?_
  refine lv_bipush (v := 7) hx hb dX6_doGarment_4 (by decide) ?_
  refine cr_iald C hw (sh_6_5 ht0).1 (sh_6_5 ht0).2 (by decide) (k := 7) rfl dX6_doGarment_6 ?_
  obtain ⟨v1, ev1, hf⟩ := cl_let_e hf
  refine cr_top ev1 ?_
  refine lv_istore (lv' := [(5, .int v1), (0, .ref (b + t0)), (1, .int a1), (2, .int a2), (3, .int a3), (4, .int a4)]) hx hb dX6_doGarment_7 hl (by decide) rfl (fun ls hl => ?_)
  refine lv_iconst (v := 0) hx hb dX6_doGarment_9 (by decide) ?_
  refine lv_istore (lv' := [(6, .int 0), (5, .int v1), (0, .ref (b + t0)), (1, .int a1), (2, .int a2), (3, .int a3), (4, .int a4)]) hx hb dX6_doGarment_10 hl (by decide) rfl (fun ls hl => ?_)
  exact k_X6_doGarment_12 C cl_F M t0 a1 a2 a3 a4 v1 0 _ _ hf _ _ _ ht0 hw (lv_sub hl [2, 3, 4, 5, 6, 1, 0] rfl)
set_option maxRecDepth 100000 in
theorem c_X6_doGarment {l : Launch} {dd : cl_D} {b : Nat} (hlt : l.stackTraces = false) {M : cl_M} {t0 : Nat} {a1 : Int32} {a2 : Int32} {a3 : Int32} {a4 : Int32}  {r : Int32} {M' : cl_M} (ht0 : cl_sh dd t0 = 6) (h : f_X6_doGarment M t0 a1 a2 a3 a4 = some (r, M')) : cl_Mi l dd b yX6_doGarment cX6_doGarment 7 (some .int) 2 45 [.ref (b + t0), .int a1, .int a2, .int a3, .int a4] M r M' :=
  cl_of hlt (by decide) (Nat.le_of_ble_eq_true rfl) (fun p e s m below meth c ls C hw hl => k_X6_doGarment C M t0 a1 a2 a3 a4 r M' h _ _ _ ht0 hw (lv_sub hl [0, 1, 2, 3, 4] rfl))
theorem cy_X6_doGarment : cl_cy yX6_doGarment cX6_doGarment 7 (some .int) 4 := ⟨in_ClothesLineModel, cd_X6_doGarment, by decide +kernel, by decide +kernel, by decide +kernel⟩
theorem vy_X6_doGarment : cl_vy yX6_doGarment := ⟨im_X6_doGarment, se_X6_doGarment⟩
def f_X6_doHang (M : cl_M) (t0 : Nat) (a1 : Int32) (a2 : Int32) (a3 : Int32) (a4 : Int32) : Option (Int32 × cl_M) := (f_X6_put M t0 a1 6 1).bind (fun M1 => (f_X6_put M1 t0 a1 7 a2).bind (fun M3 => (f_X6_put M3 t0 a1 8 a3).bind (fun M5 => (f_X6_put M5 t0 a1 9 a4).bind (fun M7 => cl_let (cl_ms M7 (t0 + 2) 2 ((M7 (t0 + 2) 2) - a3)) (fun M9 => cl_let (cl_ms M9 (t0 + 2) 3 ((M9 (t0 + 2) 3) - a4)) (fun M10 => (f_X6_hold M10 t0 a1).bind (fun v11 => some (v11, M10))))))))
set_option maxHeartbeats 4000000 in
set_option maxRecDepth 100000 in
theorem k_X6_doHang {p : Program} {l : Launch} {e : Env} {s : State} {m : MethodId} {args : Array Value} {below : List Frame} {meth : Method} {c : Code} {dd : cl_D} {b : Nat} (C : cl_C p l s m args meth c cX6_doHang RX6 5 (some .int) dd b) : ∀ (M : cl_M) (t0 : Nat) (a1 : Int32) (a2 : Int32) (a3 : Int32) (a4 : Int32) (r : Int32) (M' : cl_M), f_X6_doHang M t0 a1 a2 a3 a4 = some (r, M') → ∀ (H : Heap) (locs : List Loc) (ls : Array Slot), cl_sh dd t0 = 6 → cl_H dd b M s H locs → lv_has ls 5 [(0, .ref (b + t0)), (1, .int a1), (2, .int a2), (3, .int a3), (4, .int a4)] → W p l e { frames := 2, cells := 0, slots := 0, locals := 43 } s m args below meth c H locs 0 0 (cl_Zi below args s dd b r M') (F0 m 0 ls []) := by
  have hx := C.1
  have hb := C.2.1
  have hlt := C.2.2.2.2.2.2.2.2.2.2
  have hRr := C.2.2.2.2.2.2.2.2.2.1
  intro M t0 a1 a2 a3 a4 r M' hf H locs ls ht0 hw hl
  unfold f_X6_doHang at hf
  refine lv_aload_n hx hb dX6_doHang_0 rfl (lv_at hl 0 rfl) ?_
  refine lv_iload_n hx hb dX6_doHang_1 rfl (lv_at hl 1 rfl) ?_
  refine lv_bipush (v := 6) hx hb dX6_doHang_2 (by decide) ?_
  refine lv_iconst (v := 1) hx hb dX6_doHang_4 (by decide) ?_
  obtain ⟨M1, e2, hf⟩ := cl_bind_e hf
  refine cr_Vv C hw (c_X6_put hlt ht0 e2) cy_X6_put vy_X6_put ml_X6_106 (cl_lt ht0 (by decide)) (cl_e6 ht0) rfl rfl (As := [.int a1, .int 6, .int 1]) rfl hl.1 rfl ⟨⟨Nat.le_of_ble_eq_true rfl, Nat.le_of_ble_eq_true rfl⟩, Nat.le_of_ble_eq_true rfl, Nat.le_of_ble_eq_true rfl, Nat.le_of_ble_eq_true rfl⟩ dX6_doHang_5 (fun H locs hw => ?_)
  refine lv_aload_n hx hb dX6_doHang_8 rfl (lv_at hl 0 rfl) ?_
  refine lv_iload_n hx hb dX6_doHang_9 rfl (lv_at hl 1 rfl) ?_
  refine lv_bipush (v := 7) hx hb dX6_doHang_10 (by decide) ?_
  refine lv_iload_n hx hb dX6_doHang_12 rfl (lv_at hl 2 rfl) ?_
  obtain ⟨M3, e4, hf⟩ := cl_bind_e hf
  refine cr_Vv C hw (c_X6_put hlt ht0 e4) cy_X6_put vy_X6_put ml_X6_106 (cl_lt ht0 (by decide)) (cl_e6 ht0) rfl rfl (As := [.int a1, .int 7, .int a2]) rfl hl.1 rfl ⟨⟨Nat.le_of_ble_eq_true rfl, Nat.le_of_ble_eq_true rfl⟩, Nat.le_of_ble_eq_true rfl, Nat.le_of_ble_eq_true rfl, Nat.le_of_ble_eq_true rfl⟩ dX6_doHang_13 (fun H locs hw => ?_)
  refine lv_aload_n hx hb dX6_doHang_16 rfl (lv_at hl 0 rfl) ?_
  refine lv_iload_n hx hb dX6_doHang_17 rfl (lv_at hl 1 rfl) ?_
  refine lv_bipush (v := 8) hx hb dX6_doHang_18 (by decide) ?_
  refine lv_iload_n hx hb dX6_doHang_20 rfl (lv_at hl 3 rfl) ?_
  obtain ⟨M5, e6, hf⟩ := cl_bind_e hf
  refine cr_Vv C hw (c_X6_put hlt ht0 e6) cy_X6_put vy_X6_put ml_X6_106 (cl_lt ht0 (by decide)) (cl_e6 ht0) rfl rfl (As := [.int a1, .int 8, .int a3]) rfl hl.1 rfl ⟨⟨Nat.le_of_ble_eq_true rfl, Nat.le_of_ble_eq_true rfl⟩, Nat.le_of_ble_eq_true rfl, Nat.le_of_ble_eq_true rfl, Nat.le_of_ble_eq_true rfl⟩ dX6_doHang_21 (fun H locs hw => ?_)
  refine lv_aload_n hx hb dX6_doHang_24 rfl (lv_at hl 0 rfl) ?_
  refine lv_iload_n hx hb dX6_doHang_25 rfl (lv_at hl 1 rfl) ?_
  refine lv_bipush (v := 9) hx hb dX6_doHang_26 (by decide) ?_
  refine lv_iload hx hb dX6_doHang_28 (lv_at hl 4 rfl) ?_
  obtain ⟨M7, e8, hf⟩ := cl_bind_e hf
  refine cr_Vv C hw (c_X6_put hlt ht0 e8) cy_X6_put vy_X6_put ml_X6_106 (cl_lt ht0 (by decide)) (cl_e6 ht0) rfl rfl (As := [.int a1, .int 9, .int a4]) rfl hl.1 rfl ⟨⟨Nat.le_of_ble_eq_true rfl, Nat.le_of_ble_eq_true rfl⟩, Nat.le_of_ble_eq_true rfl, Nat.le_of_ble_eq_true rfl, Nat.le_of_ble_eq_true rfl⟩ dX6_doHang_30 (fun H locs hw => ?_)
  refine lv_aload_n hx hb dX6_doHang_33 rfl (lv_at hl 0 rfl) ?_
  refine fg_X6_17 C hw ht0 dX6_doHang_34 ?_
  refine lv_iconst (v := 2) hx hb dX6_doHang_37 (by decide) ?_
  refine lv_dup2_11 hx hb dX6_doHang_38 rfl rfl ?_
  refine cr_iald C hw (sh_6_5 ht0).1 (sh_6_5 ht0).2 (by decide) (k := 2) rfl dX6_doHang_39 ?_
  refine lv_iload_n hx hb dX6_doHang_40 rfl (lv_at hl 3 rfl) ?_
  refine lv_isub hx hb dX6_doHang_41 ?_
  obtain ⟨M9, eM9, hf⟩ := cl_let_e hf
  refine cr_iast C hw (sh_6_5 ht0).1 (sh_6_5 ht0).2 (by decide) (k := 2) rfl eM9 dX6_doHang_42 (fun H locs hw => ?_)
  refine lv_aload_n hx hb dX6_doHang_43 rfl (lv_at hl 0 rfl) ?_
  refine fg_X6_17 C hw ht0 dX6_doHang_44 ?_
  refine lv_iconst (v := 3) hx hb dX6_doHang_47 (by decide) ?_
  refine lv_dup2_11 hx hb dX6_doHang_48 rfl rfl ?_
  refine cr_iald C hw (sh_6_5 ht0).1 (sh_6_5 ht0).2 (by decide) (k := 3) rfl dX6_doHang_49 ?_
  refine lv_iload hx hb dX6_doHang_50 (lv_at hl 4 rfl) ?_
  refine lv_isub hx hb dX6_doHang_52 ?_
  obtain ⟨M10, eM10, hf⟩ := cl_let_e hf
  refine cr_iast C hw (sh_6_5 ht0).1 (sh_6_5 ht0).2 (by decide) (k := 3) rfl eM10 dX6_doHang_53 (fun H locs hw => ?_)
  refine lv_aload_n hx hb dX6_doHang_54 rfl (lv_at hl 0 rfl) ?_
  refine lv_iload_n hx hb dX6_doHang_55 rfl (lv_at hl 1 rfl) ?_
  obtain ⟨v11, e12, hf⟩ := cl_bind_e hf
  refine cr_Vi C hw (c_X6_hold hlt ht0 e12) cy_X6_hold vy_X6_hold ml_X6_129 (cl_lt ht0 (by decide)) (cl_e6 ht0) rfl rfl (As := [.int a1]) rfl hl.1 rfl ⟨⟨Nat.le_of_ble_eq_true rfl, Nat.le_of_ble_eq_true rfl⟩, Nat.le_of_ble_eq_true rfl, Nat.le_of_ble_eq_true rfl, Nat.le_of_ble_eq_true rfl⟩ dX6_doHang_56 (fun H locs hw => ?_)
  obtain ⟨rfl, rfl⟩ := cl_pair hf
  exact cr_reti C hw dX6_doHang_59
set_option maxRecDepth 100000 in
theorem c_X6_doHang {l : Launch} {dd : cl_D} {b : Nat} (hlt : l.stackTraces = false) {M : cl_M} {t0 : Nat} {a1 : Int32} {a2 : Int32} {a3 : Int32} {a4 : Int32}  {r : Int32} {M' : cl_M} (ht0 : cl_sh dd t0 = 6) (h : f_X6_doHang M t0 a1 a2 a3 a4 = some (r, M')) : cl_Mi l dd b yX6_doHang cX6_doHang 5 (some .int) 2 43 [.ref (b + t0), .int a1, .int a2, .int a3, .int a4] M r M' :=
  cl_of hlt (by decide) (Nat.le_of_ble_eq_true rfl) (fun p e s m below meth c ls C hw hl => k_X6_doHang C M t0 a1 a2 a3 a4 r M' h _ _ _ ht0 hw (lv_sub hl [0, 1, 2, 3, 4] rfl))
theorem cy_X6_doHang : cl_cy yX6_doHang cX6_doHang 5 (some .int) 4 := ⟨in_ClothesLineModel, cd_X6_doHang, by decide +kernel, by decide +kernel, by decide +kernel⟩
theorem vy_X6_doHang : cl_vy yX6_doHang := ⟨im_X6_doHang, se_X6_doHang⟩
def f_X6_doTake (M : cl_M) (t0 : Nat) (a1 : Int32) : Option (Int32 × cl_M) := (f_X6_freePegs M t0 a1).bind (fun M1 => (f_X6_put M1 t0 a1 6 0).bind (fun M3 => (f_X6_of M3 t0 a1 3).bind (fun v5 => some (v5, M3))))
set_option maxHeartbeats 4000000 in
set_option maxRecDepth 100000 in
theorem k_X6_doTake {p : Program} {l : Launch} {e : Env} {s : State} {m : MethodId} {args : Array Value} {below : List Frame} {meth : Method} {c : Code} {dd : cl_D} {b : Nat} (C : cl_C p l s m args meth c cX6_doTake RX6 2 (some .int) dd b) : ∀ (M : cl_M) (t0 : Nat) (a1 : Int32) (r : Int32) (M' : cl_M), f_X6_doTake M t0 a1 = some (r, M') → ∀ (H : Heap) (locs : List Loc) (ls : Array Slot), cl_sh dd t0 = 6 → cl_H dd b M s H locs → lv_has ls 2 [(0, .ref (b + t0)), (1, .int a1)] → W p l e { frames := 2, cells := 0, slots := 0, locals := 44 } s m args below meth c H locs 0 0 (cl_Zi below args s dd b r M') (F0 m 0 ls []) := by
  have hx := C.1
  have hb := C.2.1
  have hlt := C.2.2.2.2.2.2.2.2.2.2
  have hRr := C.2.2.2.2.2.2.2.2.2.1
  intro M t0 a1 r M' hf H locs ls ht0 hw hl
  unfold f_X6_doTake at hf
  refine lv_aload_n hx hb dX6_doTake_0 rfl (lv_at hl 0 rfl) ?_
  refine lv_iload_n hx hb dX6_doTake_1 rfl (lv_at hl 1 rfl) ?_
  obtain ⟨M1, e2, hf⟩ := cl_bind_e hf
  refine cr_Vv C hw (c_X6_freePegs hlt ht0 e2) cy_X6_freePegs vy_X6_freePegs ml_X6_132 (cl_lt ht0 (by decide)) (cl_e6 ht0) rfl rfl (As := [.int a1]) rfl hl.1 rfl ⟨⟨Nat.le_of_ble_eq_true rfl, Nat.le_of_ble_eq_true rfl⟩, Nat.le_of_ble_eq_true rfl, Nat.le_of_ble_eq_true rfl, Nat.le_of_ble_eq_true rfl⟩ dX6_doTake_2 (fun H locs hw => ?_)
  refine lv_aload_n hx hb dX6_doTake_5 rfl (lv_at hl 0 rfl) ?_
  refine lv_iload_n hx hb dX6_doTake_6 rfl (lv_at hl 1 rfl) ?_
  refine lv_bipush (v := 6) hx hb dX6_doTake_7 (by decide) ?_
  refine lv_iconst (v := 0) hx hb dX6_doTake_9 (by decide) ?_
  obtain ⟨M3, e4, hf⟩ := cl_bind_e hf
  refine cr_Vv C hw (c_X6_put hlt ht0 e4) cy_X6_put vy_X6_put ml_X6_106 (cl_lt ht0 (by decide)) (cl_e6 ht0) rfl rfl (As := [.int a1, .int 6, .int 0]) rfl hl.1 rfl ⟨⟨Nat.le_of_ble_eq_true rfl, Nat.le_of_ble_eq_true rfl⟩, Nat.le_of_ble_eq_true rfl, Nat.le_of_ble_eq_true rfl, Nat.le_of_ble_eq_true rfl⟩ dX6_doTake_10 (fun H locs hw => ?_)
  refine lv_aload_n hx hb dX6_doTake_13 rfl (lv_at hl 0 rfl) ?_
  refine lv_iload_n hx hb dX6_doTake_14 rfl (lv_at hl 1 rfl) ?_
  refine lv_iconst (v := 3) hx hb dX6_doTake_15 (by decide) ?_
  obtain ⟨v5, e6, hf⟩ := cl_bind_e hf
  refine cr_Vi C hw (c_X6_of hlt ht0 e6) cy_X6_of vy_X6_of ml_X6_81 (cl_lt ht0 (by decide)) (cl_e6 ht0) rfl rfl (As := [.int a1, .int 3]) rfl hl.1 rfl ⟨⟨Nat.le_of_ble_eq_true rfl, Nat.le_of_ble_eq_true rfl⟩, Nat.le_of_ble_eq_true rfl, Nat.le_of_ble_eq_true rfl, Nat.le_of_ble_eq_true rfl⟩ dX6_doTake_16 (fun H locs hw => ?_)
  obtain ⟨rfl, rfl⟩ := cl_pair hf
  exact cr_reti C hw dX6_doTake_19
set_option maxRecDepth 100000 in
theorem c_X6_doTake {l : Launch} {dd : cl_D} {b : Nat} (hlt : l.stackTraces = false) {M : cl_M} {t0 : Nat} {a1 : Int32}  {r : Int32} {M' : cl_M} (ht0 : cl_sh dd t0 = 6) (h : f_X6_doTake M t0 a1 = some (r, M')) : cl_Mi l dd b yX6_doTake cX6_doTake 2 (some .int) 2 44 [.ref (b + t0), .int a1] M r M' :=
  cl_of hlt (by decide) (Nat.le_of_ble_eq_true rfl) (fun p e s m below meth c ls C hw hl => k_X6_doTake C M t0 a1 r M' h _ _ _ ht0 hw (lv_sub hl [0, 1] rfl))
theorem cy_X6_doTake : cl_cy yX6_doTake cX6_doTake 2 (some .int) 1 := ⟨in_ClothesLineModel, cd_X6_doTake, by decide +kernel, by decide +kernel, by decide +kernel⟩
theorem vy_X6_doTake : cl_vy yX6_doTake := ⟨im_X6_doTake, se_X6_doTake⟩
def f_X6_setIn_32 (r4 : cl_M → Nat → Int32 → Int32 → Int32 → Option (Int32)) (M : cl_M) (t0 : Nat) (a1 : Int32) (a3 : Int32) (z0 : Int32) (z1 : Int32) : Option (Int32) := cl_let (z1 ||| z0) (fun v5 => cl_let (a3 + 1) (fun v6 => r4 M t0 a1 v5 v6))
set_option maxHeartbeats 4000000 in
set_option maxRecDepth 100000 in
theorem k_X6_setIn_32 {p : Program} {l : Launch} {e : Env} {s : State} {m : MethodId} {args : Array Value} {below : List Frame} {meth : Method} {c : Code} {dd : cl_D} {b : Nat} (C : cl_C p l s m args meth c cX6_setIn RX6 4 (some .int) dd b) {r4 : cl_M → Nat → Int32 → Int32 → Int32 → Option (Int32)} (hr4 : ∀ (M : cl_M) (t0 : Nat) (a1 : Int32) (a2 : Int32) (a3 : Int32) (r : Int32), r4 M t0 a1 a2 a3 = some r → ∀ (H : Heap) (locs : List Loc) (ls : Array Slot), cl_sh dd t0 = 6 → cl_H dd b M s H locs → lv_has ls 4 [(0, .ref (b + t0)), (1, .int a1), (2, .int a2), (3, .int a3)] → W p l e { frames := 2, cells := 0, slots := 0, locals := 44 } s m args below meth c H locs 0 0 (cl_Zi below args s dd b r M) (F0 m 4 ls [])) : ∀ (M : cl_M) (t0 : Nat) (a1 : Int32) (a3 : Int32) (z0 : Int32) (z1 : Int32) (r : Int32), f_X6_setIn_32 r4 M t0 a1 a3 z0 z1 = some r → ∀ (H : Heap) (locs : List Loc) (ls : Array Slot), cl_sh dd t0 = 6 → cl_H dd b M s H locs → lv_has ls 4 [(0, .ref (b + t0)), (1, .int a1), (3, .int a3)] → W p l e { frames := 2, cells := 0, slots := 0, locals := 44 } s m args below meth c H locs 0 0 (cl_Zi below args s dd b r M) (F0 m 32 ls [.int z0, .int z1]) := by
  have hx := C.1
  have hb := C.2.1
  have hlt := C.2.2.2.2.2.2.2.2.2.2
  have hRr := C.2.2.2.2.2.2.2.2.2.1
  intro M t0 a1 a3 z0 z1 r hf H locs ls ht0 hw hl
  unfold f_X6_setIn_32 at hf
  refine lv_ior hx hb dX6_setIn_32 ?_
  obtain ⟨v5, ev5, hf⟩ := cl_let_e hf
  refine cr_top ev5 ?_
  refine lv_istore_n (lv' := [(2, .int v5), (0, .ref (b + t0)), (1, .int a1), (3, .int a3)]) hx hb dX6_setIn_33 rfl hl (by decide) rfl (fun ls hl => ?_)
  obtain ⟨v6, ev6, hf⟩ := cl_let_e hf
  refine lv_iinc (v := v6) (lv' := [(3, .int v6), (2, .int v5), (0, .ref (b + t0)), (1, .int a1)]) hx hb dX6_setIn_34 hl (k := 3) rfl (by rw [ev6]; rfl) (by decide) rfl (fun ls hl => ?_)
  refine lv_goto (tgt := 4) hx hb dX6_setIn_37 (by decide) ?_
  exact hr4 M t0 a1 v5 v6 _ hf _ _ _ ht0 hw (lv_sub hl [2, 3, 1, 0] rfl)
def f_X6_setIn_4 : Nat → cl_M → Nat → Int32 → Int32 → Int32 → Option (Int32)
  | 0, _, _, _, _, _ => none
  | k + 1, M, t0, a1, a2, a3 => if (M (t0 + 2) 7) ≤ a3 then some a2 else (f_X6_isIn M t0 a3 a1).bind (fun v2 => if v2 = 0 then f_X6_setIn_32 (f_X6_setIn_4 k) M t0 a1 a3 0 a2 else f_X6_setIn_32 (f_X6_setIn_4 k) M t0 a1 a3 (1 <<< (a3 &&& 31)) a2)
set_option maxHeartbeats 4000000 in
set_option maxRecDepth 100000 in
theorem k_X6_setIn_4 {p : Program} {l : Launch} {e : Env} {s : State} {m : MethodId} {args : Array Value} {below : List Frame} {meth : Method} {c : Code} {dd : cl_D} {b : Nat} (C : cl_C p l s m args meth c cX6_setIn RX6 4 (some .int) dd b) : ∀ (k : Nat), ∀ (M : cl_M) (t0 : Nat) (a1 : Int32) (a2 : Int32) (a3 : Int32) (r : Int32), f_X6_setIn_4 k M t0 a1 a2 a3 = some r → ∀ (H : Heap) (locs : List Loc) (ls : Array Slot), cl_sh dd t0 = 6 → cl_H dd b M s H locs → lv_has ls 4 [(0, .ref (b + t0)), (1, .int a1), (2, .int a2), (3, .int a3)] → W p l e { frames := 2, cells := 0, slots := 0, locals := 44 } s m args below meth c H locs 0 0 (cl_Zi below args s dd b r M) (F0 m 4 ls []) := by
  have hx := C.1
  have hb := C.2.1
  have hlt := C.2.2.2.2.2.2.2.2.2.2
  have hRr := C.2.2.2.2.2.2.2.2.2.1
  intro k
  induction k with
  | zero =>
    intro M t0 a1 a2 a3 r hf H locs ls ht0 hw hl
    rw [f_X6_setIn_4] at hf
    cases hf
  | succ k ih =>
    intro M t0 a1 a2 a3 r hf H locs ls ht0 hw hl
    rw [f_X6_setIn_4] at hf
    refine lv_iload_n hx hb dX6_setIn_4 rfl (lv_at hl 3 rfl) ?_
    refine lv_aload_n hx hb dX6_setIn_5 rfl (lv_at hl 0 rfl) ?_
    refine fg_X6_17 C hw ht0 dX6_setIn_6 ?_
    refine lv_bipush (v := 7) hx hb dX6_setIn_9 (by decide) ?_
    refine cr_iald C hw (sh_6_5 ht0).1 (sh_6_5 ht0).2 (by decide) (k := 7) rfl dX6_setIn_11 ?_
    refine lv_icmp_ge (tgt := 40) hx hb dX6_setIn_12 (by decide) (fun c1 => ?_) (fun c1 => ?_)
    · have hf := cl_yes c1 hf
      refine lv_iload_n hx hb dX6_setIn_40 rfl (lv_at hl 2 rfl) ?_
      obtain rfl := Option.some.inj hf
      exact cr_reti C hw dX6_setIn_41
    · have hf := cl_no c1 hf
      refine lv_iload_n hx hb dX6_setIn_15 rfl (lv_at hl 2 rfl) ?_
      refine lv_aload_n hx hb dX6_setIn_16 rfl (lv_at hl 0 rfl) ?_
      refine lv_iload_n hx hb dX6_setIn_17 rfl (lv_at hl 3 rfl) ?_
      refine lv_iload_n hx hb dX6_setIn_18 rfl (lv_at hl 1 rfl) ?_
      obtain ⟨v2, e3, hf⟩ := cl_bind_e hf
      refine cr_Vi C hw (c_X6_isIn hlt ht0 e3) cy_X6_isIn vy_X6_isIn ml_X6_84 (cl_lt ht0 (by decide)) (cl_e6 ht0) rfl rfl (As := [.int a3, .int a1]) rfl hl.1 rfl ⟨⟨Nat.le_of_ble_eq_true rfl, Nat.le_of_ble_eq_true rfl⟩, Nat.le_of_ble_eq_true rfl, Nat.le_of_ble_eq_true rfl, Nat.le_of_ble_eq_true rfl⟩ dX6_setIn_19 (fun H locs hw => ?_)
      refine lv_if_eq (tgt := 31) hx hb dX6_setIn_22 (by decide) (fun c4 => ?_) (fun c4 => ?_)
      · have hf := cl_yes c4 hf
        refine lv_iconst (v := 0) hx hb dX6_setIn_31 (by decide) ?_
        exact k_X6_setIn_32 C ih M t0 a1 a3 0 a2 _ hf _ _ _ ht0 hw (lv_sub hl [0, 1, 3] rfl)
      · have hf := cl_no c4 hf
        refine lv_iconst (v := 1) hx hb dX6_setIn_25 (by decide) ?_
        refine lv_iload_n hx hb dX6_setIn_26 rfl (lv_at hl 3 rfl) ?_
        refine lv_ishl hx hb dX6_setIn_27 ?_
        refine lv_goto (tgt := 32) hx hb dX6_setIn_28 (by decide) ?_
        exact k_X6_setIn_32 C ih M t0 a1 a3 (1 <<< (a3 &&& 31)) a2 _ hf _ _ _ ht0 hw (lv_sub hl [0, 1, 3] rfl)
def f_X6_setIn (M : cl_M) (t0 : Nat) (a1 : Int32) : Option (Int32) := f_X6_setIn_4 cl_F M t0 a1 0 0
set_option maxHeartbeats 4000000 in
set_option maxRecDepth 100000 in
theorem k_X6_setIn {p : Program} {l : Launch} {e : Env} {s : State} {m : MethodId} {args : Array Value} {below : List Frame} {meth : Method} {c : Code} {dd : cl_D} {b : Nat} (C : cl_C p l s m args meth c cX6_setIn RX6 4 (some .int) dd b) : ∀ (M : cl_M) (t0 : Nat) (a1 : Int32) (r : Int32), f_X6_setIn M t0 a1 = some r → ∀ (H : Heap) (locs : List Loc) (ls : Array Slot), cl_sh dd t0 = 6 → cl_H dd b M s H locs → lv_has ls 4 [(0, .ref (b + t0)), (1, .int a1)] → W p l e { frames := 2, cells := 0, slots := 0, locals := 44 } s m args below meth c H locs 0 0 (cl_Zi below args s dd b r M) (F0 m 0 ls []) := by
  have hx := C.1
  have hb := C.2.1
  have hlt := C.2.2.2.2.2.2.2.2.2.2
  have hRr := C.2.2.2.2.2.2.2.2.2.1
  intro M t0 a1 r hf H locs ls ht0 hw hl
  unfold f_X6_setIn at hf
  refine lv_iconst (v := 0) hx hb dX6_setIn_0 (by decide) ?_
  refine lv_istore_n (lv' := [(2, .int 0), (0, .ref (b + t0)), (1, .int a1)]) hx hb dX6_setIn_1 rfl hl (by decide) rfl (fun ls hl => ?_)
  refine lv_iconst (v := 0) hx hb dX6_setIn_2 (by decide) ?_
  refine lv_istore_n (lv' := [(3, .int 0), (2, .int 0), (0, .ref (b + t0)), (1, .int a1)]) hx hb dX6_setIn_3 rfl hl (by decide) rfl (fun ls hl => ?_)
  exact k_X6_setIn_4 C cl_F M t0 a1 0 0 _ hf _ _ _ ht0 hw (lv_sub hl [2, 3, 1, 0] rfl)
set_option maxRecDepth 100000 in
theorem c_X6_setIn {l : Launch} {dd : cl_D} {b : Nat} (hlt : l.stackTraces = false) {M : cl_M} {t0 : Nat} {a1 : Int32}  {r : Int32} (ht0 : cl_sh dd t0 = 6) (h : f_X6_setIn M t0 a1 = some r) : cl_Mi l dd b yX6_setIn cX6_setIn 4 (some .int) 2 44 [.ref (b + t0), .int a1] M r M :=
  cl_of hlt (by decide) (Nat.le_of_ble_eq_true rfl) (fun p e s m below meth c ls C hw hl => k_X6_setIn C M t0 a1 r h _ _ _ ht0 hw (lv_sub hl [0, 1] rfl))
theorem cy_X6_setIn : cl_cy yX6_setIn cX6_setIn 4 (some .int) 1 := ⟨in_ClothesLineModel, cd_X6_setIn, by decide +kernel, by decide +kernel, by decide +kernel⟩
theorem vy_X6_setIn : cl_vy yX6_setIn := ⟨im_X6_setIn, se_X6_setIn⟩
def f_X6_doPick (M : cl_M) (t0 : Nat) (a1 : Int32) : Option (Int32 × cl_M) := (f_X6_put M t0 a1 6 0).bind (fun M1 => (f_X6_setIn M1 t0 2).bind (fun v3 => (f_X6_many M1 v3).bind (fun v5 => some (v5, M1))))
set_option maxHeartbeats 4000000 in
set_option maxRecDepth 100000 in
theorem k_X6_doPick {p : Program} {l : Launch} {e : Env} {s : State} {m : MethodId} {args : Array Value} {below : List Frame} {meth : Method} {c : Code} {dd : cl_D} {b : Nat} (C : cl_C p l s m args meth c cX6_doPick RX6 2 (some .int) dd b) : ∀ (M : cl_M) (t0 : Nat) (a1 : Int32) (r : Int32) (M' : cl_M), f_X6_doPick M t0 a1 = some (r, M') → ∀ (H : Heap) (locs : List Loc) (ls : Array Slot), cl_sh dd t0 = 6 → cl_H dd b M s H locs → lv_has ls 2 [(0, .ref (b + t0)), (1, .int a1)] → W p l e { frames := 3, cells := 0, slots := 0, locals := 67 } s m args below meth c H locs 0 0 (cl_Zi below args s dd b r M') (F0 m 0 ls []) := by
  have hx := C.1
  have hb := C.2.1
  have hlt := C.2.2.2.2.2.2.2.2.2.2
  have hRr := C.2.2.2.2.2.2.2.2.2.1
  intro M t0 a1 r M' hf H locs ls ht0 hw hl
  unfold f_X6_doPick at hf
  refine lv_aload_n hx hb dX6_doPick_0 rfl (lv_at hl 0 rfl) ?_
  refine lv_iload_n hx hb dX6_doPick_1 rfl (lv_at hl 1 rfl) ?_
  refine lv_bipush (v := 6) hx hb dX6_doPick_2 (by decide) ?_
  refine lv_iconst (v := 0) hx hb dX6_doPick_4 (by decide) ?_
  obtain ⟨M1, e2, hf⟩ := cl_bind_e hf
  refine cr_Vv C hw (c_X6_put hlt ht0 e2) cy_X6_put vy_X6_put ml_X6_106 (cl_lt ht0 (by decide)) (cl_e6 ht0) rfl rfl (As := [.int a1, .int 6, .int 0]) rfl hl.1 rfl ⟨⟨Nat.le_of_ble_eq_true rfl, Nat.le_of_ble_eq_true rfl⟩, Nat.le_of_ble_eq_true rfl, Nat.le_of_ble_eq_true rfl, Nat.le_of_ble_eq_true rfl⟩ dX6_doPick_5 (fun H locs hw => ?_)
  refine lv_aload_n hx hb dX6_doPick_8 rfl (lv_at hl 0 rfl) ?_
  refine lv_iconst (v := 2) hx hb dX6_doPick_9 (by decide) ?_
  obtain ⟨v3, e4, hf⟩ := cl_bind_e hf
  refine cr_Vi C hw (c_X6_setIn hlt ht0 e4) cy_X6_setIn vy_X6_setIn ml_X6_153 (cl_lt ht0 (by decide)) (cl_e6 ht0) rfl rfl (As := [.int 2]) rfl hl.1 rfl ⟨⟨Nat.le_of_ble_eq_true rfl, Nat.le_of_ble_eq_true rfl⟩, Nat.le_of_ble_eq_true rfl, Nat.le_of_ble_eq_true rfl, Nat.le_of_ble_eq_true rfl⟩ dX6_doPick_10 (fun H locs hw => ?_)
  obtain ⟨v5, e6, hf⟩ := cl_bind_e hf
  refine cr_Si C hw (c_X6_many hlt e6) cy_X6_many st_X6_many ml_X6_117 (As := [.int v3]) rfl hl.1 rfl ⟨⟨Nat.le_of_ble_eq_true rfl, Nat.le_of_ble_eq_true rfl⟩, Nat.le_of_ble_eq_true rfl, Nat.le_of_ble_eq_true rfl, Nat.le_of_ble_eq_true rfl⟩ dX6_doPick_13 (fun H locs hw => ?_)
  obtain ⟨rfl, rfl⟩ := cl_pair hf
  exact cr_reti C hw dX6_doPick_16
set_option maxRecDepth 100000 in
theorem c_X6_doPick {l : Launch} {dd : cl_D} {b : Nat} (hlt : l.stackTraces = false) {M : cl_M} {t0 : Nat} {a1 : Int32}  {r : Int32} {M' : cl_M} (ht0 : cl_sh dd t0 = 6) (h : f_X6_doPick M t0 a1 = some (r, M')) : cl_Mi l dd b yX6_doPick cX6_doPick 2 (some .int) 3 67 [.ref (b + t0), .int a1] M r M' :=
  cl_of hlt (by decide) (Nat.le_of_ble_eq_true rfl) (fun p e s m below meth c ls C hw hl => k_X6_doPick C M t0 a1 r M' h _ _ _ ht0 hw (lv_sub hl [0, 1] rfl))
theorem cy_X6_doPick : cl_cy yX6_doPick cX6_doPick 2 (some .int) 1 := ⟨in_ClothesLineModel, cd_X6_doPick, by decide +kernel, by decide +kernel, by decide +kernel⟩
theorem vy_X6_doPick : cl_vy yX6_doPick := ⟨im_X6_doPick, se_X6_doPick⟩
def f_X6_doWash (M : cl_M) (t0 : Nat) (a1 : Int32) : Option (Int32 × cl_M) := (f_X6_of M t0 a1 2).bind (fun v1 => (f_X6_of M t0 a1 3).bind (fun v3 => cl_let (v1 - v3) (fun v5 => (f_X6_add M t0 a1 v5).bind (fun M6 => (f_X6_put M6 t0 a1 4 0).bind (fun M8 => (f_X6_put M8 t0 a1 5 0).bind (fun M10 => some (v5, M10)))))))
set_option maxHeartbeats 4000000 in
set_option maxRecDepth 100000 in
theorem k_X6_doWash {p : Program} {l : Launch} {e : Env} {s : State} {m : MethodId} {args : Array Value} {below : List Frame} {meth : Method} {c : Code} {dd : cl_D} {b : Nat} (C : cl_C p l s m args meth c cX6_doWash RX6 3 (some .int) dd b) : ∀ (M : cl_M) (t0 : Nat) (a1 : Int32) (r : Int32) (M' : cl_M), f_X6_doWash M t0 a1 = some (r, M') → ∀ (H : Heap) (locs : List Loc) (ls : Array Slot), cl_sh dd t0 = 6 → cl_H dd b M s H locs → lv_has ls 3 [(0, .ref (b + t0)), (1, .int a1)] → W p l e { frames := 2, cells := 0, slots := 0, locals := 45 } s m args below meth c H locs 0 0 (cl_Zi below args s dd b r M') (F0 m 0 ls []) := by
  have hx := C.1
  have hb := C.2.1
  have hlt := C.2.2.2.2.2.2.2.2.2.2
  have hRr := C.2.2.2.2.2.2.2.2.2.1
  intro M t0 a1 r M' hf H locs ls ht0 hw hl
  unfold f_X6_doWash at hf
  refine lv_aload_n hx hb dX6_doWash_0 rfl (lv_at hl 0 rfl) ?_
  refine lv_iload_n hx hb dX6_doWash_1 rfl (lv_at hl 1 rfl) ?_
  refine lv_iconst (v := 2) hx hb dX6_doWash_2 (by decide) ?_
  obtain ⟨v1, e2, hf⟩ := cl_bind_e hf
  refine cr_Vi C hw (c_X6_of hlt ht0 e2) cy_X6_of vy_X6_of ml_X6_81 (cl_lt ht0 (by decide)) (cl_e6 ht0) rfl rfl (As := [.int a1, .int 2]) rfl hl.1 rfl ⟨⟨Nat.le_of_ble_eq_true rfl, Nat.le_of_ble_eq_true rfl⟩, Nat.le_of_ble_eq_true rfl, Nat.le_of_ble_eq_true rfl, Nat.le_of_ble_eq_true rfl⟩ dX6_doWash_3 (fun H locs hw => ?_)
  refine lv_aload_n hx hb dX6_doWash_6 rfl (lv_at hl 0 rfl) ?_
  refine lv_iload_n hx hb dX6_doWash_7 rfl (lv_at hl 1 rfl) ?_
  refine lv_iconst (v := 3) hx hb dX6_doWash_8 (by decide) ?_
  obtain ⟨v3, e4, hf⟩ := cl_bind_e hf
  refine cr_Vi C hw (c_X6_of hlt ht0 e4) cy_X6_of vy_X6_of ml_X6_81 (cl_lt ht0 (by decide)) (cl_e6 ht0) rfl rfl (As := [.int a1, .int 3]) rfl hl.1 rfl ⟨⟨Nat.le_of_ble_eq_true rfl, Nat.le_of_ble_eq_true rfl⟩, Nat.le_of_ble_eq_true rfl, Nat.le_of_ble_eq_true rfl, Nat.le_of_ble_eq_true rfl⟩ dX6_doWash_9 (fun H locs hw => ?_)
  refine lv_isub hx hb dX6_doWash_12 ?_
  obtain ⟨v5, ev5, hf⟩ := cl_let_e hf
  refine cr_top ev5 ?_
  refine lv_istore_n (lv' := [(2, .int v5), (0, .ref (b + t0)), (1, .int a1)]) hx hb dX6_doWash_13 rfl hl (by decide) rfl (fun ls hl => ?_)
  refine lv_aload_n hx hb dX6_doWash_14 rfl (lv_at hl 1 rfl) ?_
  refine lv_iload_n hx hb dX6_doWash_15 rfl (lv_at hl 2 rfl) ?_
  refine lv_iload_n hx hb dX6_doWash_16 rfl (lv_at hl 0 rfl) ?_
  obtain ⟨M6, e7, hf⟩ := cl_bind_e hf
  refine cr_Vv C hw (c_X6_add hlt ht0 e7) cy_X6_add vy_X6_add ml_X6_110 (cl_lt ht0 (by decide)) (cl_e6 ht0) rfl rfl (As := [.int a1, .int v5]) rfl hl.1 rfl ⟨⟨Nat.le_of_ble_eq_true rfl, Nat.le_of_ble_eq_true rfl⟩, Nat.le_of_ble_eq_true rfl, Nat.le_of_ble_eq_true rfl, Nat.le_of_ble_eq_true rfl⟩ dX6_doWash_17 (fun H locs hw => ?_)
  refine lv_aload_n hx hb dX6_doWash_20 rfl (lv_at hl 1 rfl) ?_
  refine lv_iload_n hx hb dX6_doWash_21 rfl (lv_at hl 2 rfl) ?_
  refine lv_iconst (v := 4) hx hb dX6_doWash_22 (by decide) ?_
  refine lv_iconst (v := 0) hx hb dX6_doWash_23 (by decide) ?_
  obtain ⟨M8, e9, hf⟩ := cl_bind_e hf
  refine cr_Vv C hw (c_X6_put hlt ht0 e9) cy_X6_put vy_X6_put ml_X6_106 (cl_lt ht0 (by decide)) (cl_e6 ht0) rfl rfl (As := [.int a1, .int 4, .int 0]) rfl hl.1 rfl ⟨⟨Nat.le_of_ble_eq_true rfl, Nat.le_of_ble_eq_true rfl⟩, Nat.le_of_ble_eq_true rfl, Nat.le_of_ble_eq_true rfl, Nat.le_of_ble_eq_true rfl⟩ dX6_doWash_24 (fun H locs hw => ?_)
  refine lv_aload_n hx hb dX6_doWash_27 rfl (lv_at hl 1 rfl) ?_
  refine lv_iload_n hx hb dX6_doWash_28 rfl (lv_at hl 2 rfl) ?_
  refine lv_iconst (v := 5) hx hb dX6_doWash_29 (by decide) ?_
  refine lv_iconst (v := 0) hx hb dX6_doWash_30 (by decide) ?_
  obtain ⟨M10, e11, hf⟩ := cl_bind_e hf
  refine cr_Vv C hw (c_X6_put hlt ht0 e11) cy_X6_put vy_X6_put ml_X6_106 (cl_lt ht0 (by decide)) (cl_e6 ht0) rfl rfl (As := [.int a1, .int 5, .int 0]) rfl hl.1 rfl ⟨⟨Nat.le_of_ble_eq_true rfl, Nat.le_of_ble_eq_true rfl⟩, Nat.le_of_ble_eq_true rfl, Nat.le_of_ble_eq_true rfl, Nat.le_of_ble_eq_true rfl⟩ dX6_doWash_31 (fun H locs hw => ?_)
  refine lv_iload_n hx hb dX6_doWash_34 rfl (lv_at hl 0 rfl) ?_
  obtain ⟨rfl, rfl⟩ := cl_pair hf
  exact cr_reti C hw dX6_doWash_35
set_option maxRecDepth 100000 in
theorem c_X6_doWash {l : Launch} {dd : cl_D} {b : Nat} (hlt : l.stackTraces = false) {M : cl_M} {t0 : Nat} {a1 : Int32}  {r : Int32} {M' : cl_M} (ht0 : cl_sh dd t0 = 6) (h : f_X6_doWash M t0 a1 = some (r, M')) : cl_Mi l dd b yX6_doWash cX6_doWash 3 (some .int) 2 45 [.ref (b + t0), .int a1] M r M' :=
  cl_of hlt (by decide) (Nat.le_of_ble_eq_true rfl) (fun p e s m below meth c ls C hw hl => k_X6_doWash C M t0 a1 r M' h _ _ _ ht0 hw (lv_sub hl [0, 1] rfl))
theorem cy_X6_doWash : cl_cy yX6_doWash cX6_doWash 3 (some .int) 1 := ⟨in_ClothesLineModel, cd_X6_doWash, by decide +kernel, by decide +kernel, by decide +kernel⟩
theorem vy_X6_doWash : cl_vy yX6_doWash := ⟨im_X6_doWash, se_X6_doWash⟩
def f_X6_canShift_38 (M : cl_M) (z0 : Int32) : Option (Int32) := if cl_bz z0 = true then some z0 else none
set_option maxHeartbeats 4000000 in
set_option maxRecDepth 100000 in
theorem k_X6_canShift_38 {p : Program} {l : Launch} {e : Env} {s : State} {m : MethodId} {args : Array Value} {below : List Frame} {meth : Method} {c : Code} {dd : cl_D} {b : Nat} (C : cl_C p l s m args meth c cX6_canShift RX6 3 (some .boolean) dd b) : ∀ (M : cl_M) (z0 : Int32) (r : Int32), f_X6_canShift_38 M z0 = some r → ∀ (H : Heap) (locs : List Loc) (ls : Array Slot), cl_H dd b M s H locs → lv_has ls 3 [] → W p l e { frames := 4, cells := 0, slots := 0, locals := 88 } s m args below meth c H locs 0 0 (cl_Zi below args s dd b r M) (F0 m 38 ls [.int z0]) := by
  have hx := C.1
  have hb := C.2.1
  have hlt := C.2.2.2.2.2.2.2.2.2.2
  have hRr := C.2.2.2.2.2.2.2.2.2.1
  intro M z0 r hf H locs ls hw hl
  unfold f_X6_canShift_38 at hf
  obtain ⟨q4, hf⟩ := cl_grd hf
  obtain rfl := Option.some.inj hf
  exact cr_retz C hw q4 dX6_canShift_38
def f_X6_canShift (M : cl_M) (t0 : Nat) (a1 : Int32) (a2 : Int32) : Option (Int32) := (f_X6_isIn M t0 a1 1).bind (fun v1 => if v1 = 0 then f_X6_canShift_38 M 0 else (f_X6_reaches M t0 a1 a2).bind (fun v5 => if v5 = 0 then f_X6_canShift_38 M 0 else (f_X6_spotsFrom M t0 a1 a2).bind (fun v8 => (f_X6_taken M t0 a1).bind (fun v10 => if (v8 &&& v10) = 0 then f_X6_canShift_38 M 1 else f_X6_canShift_38 M 0))))
set_option maxHeartbeats 4000000 in
set_option maxRecDepth 100000 in
theorem k_X6_canShift {p : Program} {l : Launch} {e : Env} {s : State} {m : MethodId} {args : Array Value} {below : List Frame} {meth : Method} {c : Code} {dd : cl_D} {b : Nat} (C : cl_C p l s m args meth c cX6_canShift RX6 3 (some .boolean) dd b) : ∀ (M : cl_M) (t0 : Nat) (a1 : Int32) (a2 : Int32) (r : Int32), f_X6_canShift M t0 a1 a2 = some r → ∀ (H : Heap) (locs : List Loc) (ls : Array Slot), cl_sh dd t0 = 6 → cl_H dd b M s H locs → lv_has ls 3 [(0, .ref (b + t0)), (1, .int a1), (2, .int a2)] → W p l e { frames := 4, cells := 0, slots := 0, locals := 88 } s m args below meth c H locs 0 0 (cl_Zi below args s dd b r M) (F0 m 0 ls []) := by
  have hx := C.1
  have hb := C.2.1
  have hlt := C.2.2.2.2.2.2.2.2.2.2
  have hRr := C.2.2.2.2.2.2.2.2.2.1
  intro M t0 a1 a2 r hf H locs ls ht0 hw hl
  unfold f_X6_canShift at hf
  refine lv_aload_n hx hb dX6_canShift_0 rfl (lv_at hl 0 rfl) ?_
  refine lv_iload_n hx hb dX6_canShift_1 rfl (lv_at hl 1 rfl) ?_
  refine lv_iconst (v := 1) hx hb dX6_canShift_2 (by decide) ?_
  obtain ⟨v1, e2, hf⟩ := cl_bind_e hf
  refine cr_Vi C hw (c_X6_isIn hlt ht0 e2) cy_X6_isIn vy_X6_isIn ml_X6_84 (cl_lt ht0 (by decide)) (cl_e6 ht0) rfl rfl (As := [.int a1, .int 1]) rfl hl.1 rfl ⟨⟨Nat.le_of_ble_eq_true rfl, Nat.le_of_ble_eq_true rfl⟩, Nat.le_of_ble_eq_true rfl, Nat.le_of_ble_eq_true rfl, Nat.le_of_ble_eq_true rfl⟩ dX6_canShift_3 (fun H locs hw => ?_)
  refine lv_if_eq (tgt := 37) hx hb dX6_canShift_6 (by decide) (fun c3 => ?_) (fun c3 => ?_)
  · have hf := cl_yes c3 hf
    refine lv_iconst (v := 0) hx hb dX6_canShift_37 (by decide) ?_
    exact k_X6_canShift_38 C M 0 _ hf _ _ _ hw (lv_sub hl [] rfl)
  · have hf := cl_no c3 hf
    refine lv_aload_n hx hb dX6_canShift_9 rfl (lv_at hl 0 rfl) ?_
    refine lv_iload_n hx hb dX6_canShift_10 rfl (lv_at hl 1 rfl) ?_
    refine lv_iload_n hx hb dX6_canShift_11 rfl (lv_at hl 2 rfl) ?_
    obtain ⟨v5, e6, hf⟩ := cl_bind_e hf
    refine cr_Vi C hw (c_X6_reaches hlt ht0 e6) cy_X6_reaches vy_X6_reaches ml_X6_97 (cl_lt ht0 (by decide)) (cl_e6 ht0) rfl rfl (As := [.int a1, .int a2]) rfl hl.1 rfl ⟨⟨Nat.le_of_ble_eq_true rfl, Nat.le_of_ble_eq_true rfl⟩, Nat.le_of_ble_eq_true rfl, Nat.le_of_ble_eq_true rfl, Nat.le_of_ble_eq_true rfl⟩ dX6_canShift_12 (fun H locs hw => ?_)
    refine lv_if_eq (tgt := 37) hx hb dX6_canShift_15 (by decide) (fun c7 => ?_) (fun c7 => ?_)
    · have hf := cl_yes c7 hf
      refine lv_iconst (v := 0) hx hb dX6_canShift_37 (by decide) ?_
      exact k_X6_canShift_38 C M 0 _ hf _ _ _ hw (lv_sub hl [] rfl)
    · have hf := cl_no c7 hf
      refine lv_aload_n hx hb dX6_canShift_18 rfl (lv_at hl 0 rfl) ?_
      refine lv_iload_n hx hb dX6_canShift_19 rfl (lv_at hl 1 rfl) ?_
      refine lv_iload_n hx hb dX6_canShift_20 rfl (lv_at hl 2 rfl) ?_
      obtain ⟨v8, e9, hf⟩ := cl_bind_e hf
      refine cr_Vi C hw (c_X6_spotsFrom hlt ht0 e9) cy_X6_spotsFrom vy_X6_spotsFrom ml_X6_88 (cl_lt ht0 (by decide)) (cl_e6 ht0) rfl rfl (As := [.int a1, .int a2]) rfl hl.1 rfl ⟨⟨Nat.le_of_ble_eq_true rfl, Nat.le_of_ble_eq_true rfl⟩, Nat.le_of_ble_eq_true rfl, Nat.le_of_ble_eq_true rfl, Nat.le_of_ble_eq_true rfl⟩ dX6_canShift_21 (fun H locs hw => ?_)
      refine lv_aload_n hx hb dX6_canShift_24 rfl (lv_at hl 0 rfl) ?_
      refine lv_iload_n hx hb dX6_canShift_25 rfl (lv_at hl 1 rfl) ?_
      obtain ⟨v10, e11, hf⟩ := cl_bind_e hf
      refine cr_Vi C hw (c_X6_taken hlt ht0 e11) cy_X6_taken vy_X6_taken ml_X6_100 (cl_lt ht0 (by decide)) (cl_e6 ht0) rfl rfl (As := [.int a1]) rfl hl.1 rfl ⟨⟨Nat.le_of_ble_eq_true rfl, Nat.le_of_ble_eq_true rfl⟩, Nat.le_of_ble_eq_true rfl, Nat.le_of_ble_eq_true rfl, Nat.le_of_ble_eq_true rfl⟩ dX6_canShift_26 (fun H locs hw => ?_)
      refine lv_iand hx hb dX6_canShift_29 ?_
      refine lv_if_ne (tgt := 37) hx hb dX6_canShift_30 (by decide) (fun c12 => ?_) (fun c12 => ?_)
      · have hf := cl_no c12 hf
        refine lv_iconst (v := 0) hx hb dX6_canShift_37 (by decide) ?_
        exact k_X6_canShift_38 C M 0 _ hf _ _ _ hw (lv_sub hl [] rfl)
      · have hf := cl_yes c12 hf
        refine lv_iconst (v := 1) hx hb dX6_canShift_33 (by decide) ?_
        refine lv_goto (tgt := 38) hx hb dX6_canShift_34 (by decide) ?_
        exact k_X6_canShift_38 C M 1 _ hf _ _ _ hw (lv_sub hl [] rfl)
set_option maxRecDepth 100000 in
theorem c_X6_canShift {l : Launch} {dd : cl_D} {b : Nat} (hlt : l.stackTraces = false) {M : cl_M} {t0 : Nat} {a1 : Int32} {a2 : Int32}  {r : Int32} (ht0 : cl_sh dd t0 = 6) (h : f_X6_canShift M t0 a1 a2 = some r) : cl_Mi l dd b yX6_canShift cX6_canShift 3 (some .boolean) 4 88 [.ref (b + t0), .int a1, .int a2] M r M :=
  cl_of hlt (by decide) (Nat.le_of_ble_eq_true rfl) (fun p e s m below meth c ls C hw hl => k_X6_canShift C M t0 a1 a2 r h _ _ _ ht0 hw (lv_sub hl [0, 1, 2] rfl))
theorem cy_X6_canShift : cl_cy yX6_canShift cX6_canShift 3 (some .boolean) 2 := ⟨in_ClothesLineModel, cd_X6_canShift, by decide +kernel, by decide +kernel, by decide +kernel⟩
theorem vy_X6_canShift : cl_vy yX6_canShift := ⟨im_X6_canShift, se_X6_canShift⟩
def f_X6_doShift (M : cl_M) (t0 : Nat) (a1 : Int32) (a2 : Int32) : Option (Int32 × cl_M) := (f_X6_of M t0 a1 7).bind (fun v1 => (f_X6_put M t0 a1 7 a2).bind (fun M3 => some (v1, M3)))
set_option maxHeartbeats 4000000 in
set_option maxRecDepth 100000 in
theorem k_X6_doShift {p : Program} {l : Launch} {e : Env} {s : State} {m : MethodId} {args : Array Value} {below : List Frame} {meth : Method} {c : Code} {dd : cl_D} {b : Nat} (C : cl_C p l s m args meth c cX6_doShift RX6 4 (some .int) dd b) : ∀ (M : cl_M) (t0 : Nat) (a1 : Int32) (a2 : Int32) (r : Int32) (M' : cl_M), f_X6_doShift M t0 a1 a2 = some (r, M') → ∀ (H : Heap) (locs : List Loc) (ls : Array Slot), cl_sh dd t0 = 6 → cl_H dd b M s H locs → lv_has ls 4 [(0, .ref (b + t0)), (1, .int a1), (2, .int a2)] → W p l e { frames := 1, cells := 0, slots := 0, locals := 23 } s m args below meth c H locs 0 0 (cl_Zi below args s dd b r M') (F0 m 0 ls []) := by
  have hx := C.1
  have hb := C.2.1
  have hlt := C.2.2.2.2.2.2.2.2.2.2
  have hRr := C.2.2.2.2.2.2.2.2.2.1
  intro M t0 a1 a2 r M' hf H locs ls ht0 hw hl
  unfold f_X6_doShift at hf
  refine lv_aload_n hx hb dX6_doShift_0 rfl (lv_at hl 0 rfl) ?_
  refine lv_iload_n hx hb dX6_doShift_1 rfl (lv_at hl 1 rfl) ?_
  refine lv_bipush (v := 7) hx hb dX6_doShift_2 (by decide) ?_
  obtain ⟨v1, e2, hf⟩ := cl_bind_e hf
  refine cr_Vi C hw (c_X6_of hlt ht0 e2) cy_X6_of vy_X6_of ml_X6_81 (cl_lt ht0 (by decide)) (cl_e6 ht0) rfl rfl (As := [.int a1, .int 7]) rfl hl.1 rfl ⟨⟨Nat.le_of_ble_eq_true rfl, Nat.le_of_ble_eq_true rfl⟩, Nat.le_of_ble_eq_true rfl, Nat.le_of_ble_eq_true rfl, Nat.le_of_ble_eq_true rfl⟩ dX6_doShift_4 (fun H locs hw => ?_)
  refine lv_istore_n (lv' := [(3, .int v1), (0, .ref (b + t0)), (1, .int a1), (2, .int a2)]) hx hb dX6_doShift_7 rfl hl (by decide) rfl (fun ls hl => ?_)
  refine lv_aload_n hx hb dX6_doShift_8 rfl (lv_at hl 1 rfl) ?_
  refine lv_iload_n hx hb dX6_doShift_9 rfl (lv_at hl 2 rfl) ?_
  refine lv_bipush (v := 7) hx hb dX6_doShift_10 (by decide) ?_
  refine lv_iload_n hx hb dX6_doShift_12 rfl (lv_at hl 3 rfl) ?_
  obtain ⟨M3, e4, hf⟩ := cl_bind_e hf
  refine cr_Vv C hw (c_X6_put hlt ht0 e4) cy_X6_put vy_X6_put ml_X6_106 (cl_lt ht0 (by decide)) (cl_e6 ht0) rfl rfl (As := [.int a1, .int 7, .int a2]) rfl hl.1 rfl ⟨⟨Nat.le_of_ble_eq_true rfl, Nat.le_of_ble_eq_true rfl⟩, Nat.le_of_ble_eq_true rfl, Nat.le_of_ble_eq_true rfl, Nat.le_of_ble_eq_true rfl⟩ dX6_doShift_13 (fun H locs hw => ?_)
  refine lv_iload_n hx hb dX6_doShift_16 rfl (lv_at hl 0 rfl) ?_
  obtain ⟨rfl, rfl⟩ := cl_pair hf
  exact cr_reti C hw dX6_doShift_17
set_option maxRecDepth 100000 in
theorem c_X6_doShift {l : Launch} {dd : cl_D} {b : Nat} (hlt : l.stackTraces = false) {M : cl_M} {t0 : Nat} {a1 : Int32} {a2 : Int32}  {r : Int32} {M' : cl_M} (ht0 : cl_sh dd t0 = 6) (h : f_X6_doShift M t0 a1 a2 = some (r, M')) : cl_Mi l dd b yX6_doShift cX6_doShift 4 (some .int) 1 23 [.ref (b + t0), .int a1, .int a2] M r M' :=
  cl_of hlt (by decide) (Nat.le_of_ble_eq_true rfl) (fun p e s m below meth c ls C hw hl => k_X6_doShift C M t0 a1 a2 r M' h _ _ _ ht0 hw (lv_sub hl [0, 1, 2] rfl))
theorem cy_X6_doShift : cl_cy yX6_doShift cX6_doShift 4 (some .int) 2 := ⟨in_ClothesLineModel, cd_X6_doShift, by decide +kernel, by decide +kernel, by decide +kernel⟩
theorem vy_X6_doShift : cl_vy yX6_doShift := ⟨im_X6_doShift, se_X6_doShift⟩
def f_X6_doShower (M : cl_M) (t0 : Nat) (a1 : Int32) (a2 : Int32) (a3 : Int32) : Option (Int32 × cl_M) := cl_let (19 + (3 * (M (t0 + 2) 5))) (fun v1 => if cl_inb v1 149 = true then cl_let (cl_ms M (t0 + 2) (v1).toNatClampNeg a1) (fun M3 => if cl_inb (v1 + 1) 149 = true then cl_let (cl_ms M3 (t0 + 2) (v1 + 1).toNatClampNeg a2) (fun M5 => if cl_inb (v1 + 2) 149 = true then cl_let (cl_ms M5 (t0 + 2) (v1 + 2).toNatClampNeg a3) (fun M7 => cl_let (cl_ms M7 (t0 + 2) 5 ((M7 (t0 + 2) 5) + 1)) (fun M8 => some (M8 (t0 + 2) 5, M8))) else none) else none) else none)
set_option maxHeartbeats 4000000 in
set_option maxRecDepth 100000 in
theorem k_X6_doShower {p : Program} {l : Launch} {e : Env} {s : State} {m : MethodId} {args : Array Value} {below : List Frame} {meth : Method} {c : Code} {dd : cl_D} {b : Nat} (C : cl_C p l s m args meth c cX6_doShower RX6 5 (some .int) dd b) : ∀ (M : cl_M) (t0 : Nat) (a1 : Int32) (a2 : Int32) (a3 : Int32) (r : Int32) (M' : cl_M), f_X6_doShower M t0 a1 a2 a3 = some (r, M') → ∀ (H : Heap) (locs : List Loc) (ls : Array Slot), cl_sh dd t0 = 6 → cl_H dd b M s H locs → lv_has ls 5 [(0, .ref (b + t0)), (1, .int a1), (2, .int a2), (3, .int a3)] → W p l e { frames := 0, cells := 0, slots := 0, locals := 0 } s m args below meth c H locs 0 0 (cl_Zi below args s dd b r M') (F0 m 0 ls []) := by
  have hx := C.1
  have hb := C.2.1
  have hlt := C.2.2.2.2.2.2.2.2.2.2
  have hRr := C.2.2.2.2.2.2.2.2.2.1
  intro M t0 a1 a2 a3 r M' hf H locs ls ht0 hw hl
  unfold f_X6_doShower at hf
  refine lv_bipush (v := 19) hx hb dX6_doShower_0 (by decide) ?_
  refine lv_iconst (v := 3) hx hb dX6_doShower_2 (by decide) ?_
  refine lv_aload_n hx hb dX6_doShower_3 rfl (lv_at hl 0 rfl) ?_
  refine fg_X6_17 C hw ht0 dX6_doShower_4 ?_
  refine lv_iconst (v := 5) hx hb dX6_doShower_7 (by decide) ?_
  refine cr_iald C hw (sh_6_5 ht0).1 (sh_6_5 ht0).2 (by decide) (k := 5) rfl dX6_doShower_8 ?_
  refine lv_imul hx hb dX6_doShower_9 ?_
  refine lv_iadd hx hb dX6_doShower_10 ?_
  obtain ⟨v1, ev1, hf⟩ := cl_let_e hf
  refine cr_top ev1 ?_
  refine lv_istore (lv' := [(4, .int v1), (0, .ref (b + t0)), (1, .int a1), (2, .int a2), (3, .int a3)]) hx hb dX6_doShower_11 hl (by decide) rfl (fun ls hl => ?_)
  refine lv_aload_n hx hb dX6_doShower_13 rfl (lv_at hl 1 rfl) ?_
  refine fg_X6_17 C hw ht0 dX6_doShower_14 ?_
  refine lv_iload hx hb dX6_doShower_17 (lv_at hl 0 rfl) ?_
  refine lv_iload_n hx hb dX6_doShower_19 rfl (lv_at hl 2 rfl) ?_
  obtain ⟨q2, hf⟩ := cl_grd hf
  obtain ⟨M3, eM3, hf⟩ := cl_let_e hf
  refine cr_iast C hw (sh_6_5 ht0).1 (sh_6_5 ht0).2 q2 (k := (v1).toNatClampNeg) rfl eM3 dX6_doShower_20 (fun H locs hw => ?_)
  refine lv_aload_n hx hb dX6_doShower_21 rfl (lv_at hl 1 rfl) ?_
  refine fg_X6_17 C hw ht0 dX6_doShower_22 ?_
  refine lv_iload hx hb dX6_doShower_25 (lv_at hl 0 rfl) ?_
  refine lv_iconst (v := 1) hx hb dX6_doShower_27 (by decide) ?_
  refine lv_iadd hx hb dX6_doShower_28 ?_
  refine lv_iload_n hx hb dX6_doShower_29 rfl (lv_at hl 3 rfl) ?_
  obtain ⟨q4, hf⟩ := cl_grd hf
  obtain ⟨M5, eM5, hf⟩ := cl_let_e hf
  refine cr_iast C hw (sh_6_5 ht0).1 (sh_6_5 ht0).2 q4 (k := (v1 + 1).toNatClampNeg) rfl eM5 dX6_doShower_30 (fun H locs hw => ?_)
  refine lv_aload_n hx hb dX6_doShower_31 rfl (lv_at hl 1 rfl) ?_
  refine fg_X6_17 C hw ht0 dX6_doShower_32 ?_
  refine lv_iload hx hb dX6_doShower_35 (lv_at hl 0 rfl) ?_
  refine lv_iconst (v := 2) hx hb dX6_doShower_37 (by decide) ?_
  refine lv_iadd hx hb dX6_doShower_38 ?_
  refine lv_iload_n hx hb dX6_doShower_39 rfl (lv_at hl 4 rfl) ?_
  obtain ⟨q6, hf⟩ := cl_grd hf
  obtain ⟨M7, eM7, hf⟩ := cl_let_e hf
  refine cr_iast C hw (sh_6_5 ht0).1 (sh_6_5 ht0).2 q6 (k := (v1 + 2).toNatClampNeg) rfl eM7 dX6_doShower_40 (fun H locs hw => ?_)
  refine lv_aload_n hx hb dX6_doShower_41 rfl (lv_at hl 1 rfl) ?_
  refine fg_X6_17 C hw ht0 dX6_doShower_42 ?_
  refine lv_iconst (v := 5) hx hb dX6_doShower_45 (by decide) ?_
  refine lv_dup2_11 hx hb dX6_doShower_46 rfl rfl ?_
  refine cr_iald C hw (sh_6_5 ht0).1 (sh_6_5 ht0).2 (by decide) (k := 5) rfl dX6_doShower_47 ?_
  refine lv_iconst (v := 1) hx hb dX6_doShower_48 (by decide) ?_
  refine lv_iadd hx hb dX6_doShower_49 ?_
  obtain ⟨M8, eM8, hf⟩ := cl_let_e hf
  refine cr_iast C hw (sh_6_5 ht0).1 (sh_6_5 ht0).2 (by decide) (k := 5) rfl eM8 dX6_doShower_50 (fun H locs hw => ?_)
  refine lv_aload_n hx hb dX6_doShower_51 rfl (lv_at hl 1 rfl) ?_
  refine fg_X6_17 C hw ht0 dX6_doShower_52 ?_
  refine lv_iconst (v := 5) hx hb dX6_doShower_55 (by decide) ?_
  refine cr_iald C hw (sh_6_5 ht0).1 (sh_6_5 ht0).2 (by decide) (k := 5) rfl dX6_doShower_56 ?_
  obtain ⟨rfl, rfl⟩ := cl_pair hf
  exact cr_reti C hw dX6_doShower_57
set_option maxRecDepth 100000 in
theorem c_X6_doShower {l : Launch} {dd : cl_D} {b : Nat} (hlt : l.stackTraces = false) {M : cl_M} {t0 : Nat} {a1 : Int32} {a2 : Int32} {a3 : Int32}  {r : Int32} {M' : cl_M} (ht0 : cl_sh dd t0 = 6) (h : f_X6_doShower M t0 a1 a2 a3 = some (r, M')) : cl_Mi l dd b yX6_doShower cX6_doShower 5 (some .int) 0 0 [.ref (b + t0), .int a1, .int a2, .int a3] M r M' :=
  cl_of hlt (by decide) (Nat.le_of_ble_eq_true rfl) (fun p e s m below meth c ls C hw hl => k_X6_doShower C M t0 a1 a2 a3 r M' h _ _ _ ht0 hw (lv_sub hl [0, 1, 2, 3] rfl))
theorem cy_X6_doShower : cl_cy yX6_doShower cX6_doShower 5 (some .int) 3 := ⟨in_ClothesLineModel, cd_X6_doShower, by decide +kernel, by decide +kernel, by decide +kernel⟩
theorem vy_X6_doShower : cl_vy yX6_doShower := ⟨im_X6_doShower, se_X6_doShower⟩
def f_X6_doSmoke (M : cl_M) (t0 : Nat) (a1 : Int32) (a2 : Int32) : Option (Int32 × cl_M) := cl_let (31 + (2 * (M (t0 + 2) 6))) (fun v1 => if cl_inb v1 149 = true then cl_let (cl_ms M (t0 + 2) (v1).toNatClampNeg a1) (fun M3 => if cl_inb (v1 + 1) 149 = true then cl_let (cl_ms M3 (t0 + 2) (v1 + 1).toNatClampNeg a2) (fun M5 => cl_let (cl_ms M5 (t0 + 2) 6 ((M5 (t0 + 2) 6) + 1)) (fun M6 => some (M6 (t0 + 2) 6, M6))) else none) else none)
set_option maxHeartbeats 4000000 in
set_option maxRecDepth 100000 in
theorem k_X6_doSmoke {p : Program} {l : Launch} {e : Env} {s : State} {m : MethodId} {args : Array Value} {below : List Frame} {meth : Method} {c : Code} {dd : cl_D} {b : Nat} (C : cl_C p l s m args meth c cX6_doSmoke RX6 4 (some .int) dd b) : ∀ (M : cl_M) (t0 : Nat) (a1 : Int32) (a2 : Int32) (r : Int32) (M' : cl_M), f_X6_doSmoke M t0 a1 a2 = some (r, M') → ∀ (H : Heap) (locs : List Loc) (ls : Array Slot), cl_sh dd t0 = 6 → cl_H dd b M s H locs → lv_has ls 4 [(0, .ref (b + t0)), (1, .int a1), (2, .int a2)] → W p l e { frames := 0, cells := 0, slots := 0, locals := 0 } s m args below meth c H locs 0 0 (cl_Zi below args s dd b r M') (F0 m 0 ls []) := by
  have hx := C.1
  have hb := C.2.1
  have hlt := C.2.2.2.2.2.2.2.2.2.2
  have hRr := C.2.2.2.2.2.2.2.2.2.1
  intro M t0 a1 a2 r M' hf H locs ls ht0 hw hl
  unfold f_X6_doSmoke at hf
  refine lv_bipush (v := 31) hx hb dX6_doSmoke_0 (by decide) ?_
  refine lv_iconst (v := 2) hx hb dX6_doSmoke_2 (by decide) ?_
  refine lv_aload_n hx hb dX6_doSmoke_3 rfl (lv_at hl 0 rfl) ?_
  refine fg_X6_17 C hw ht0 dX6_doSmoke_4 ?_
  refine lv_bipush (v := 6) hx hb dX6_doSmoke_7 (by decide) ?_
  refine cr_iald C hw (sh_6_5 ht0).1 (sh_6_5 ht0).2 (by decide) (k := 6) rfl dX6_doSmoke_9 ?_
  refine lv_imul hx hb dX6_doSmoke_10 ?_
  refine lv_iadd hx hb dX6_doSmoke_11 ?_
  obtain ⟨v1, ev1, hf⟩ := cl_let_e hf
  refine cr_top ev1 ?_
  refine lv_istore_n (lv' := [(3, .int v1), (0, .ref (b + t0)), (1, .int a1), (2, .int a2)]) hx hb dX6_doSmoke_12 rfl hl (by decide) rfl (fun ls hl => ?_)
  refine lv_aload_n hx hb dX6_doSmoke_13 rfl (lv_at hl 1 rfl) ?_
  refine fg_X6_17 C hw ht0 dX6_doSmoke_14 ?_
  refine lv_iload_n hx hb dX6_doSmoke_17 rfl (lv_at hl 0 rfl) ?_
  refine lv_iload_n hx hb dX6_doSmoke_18 rfl (lv_at hl 2 rfl) ?_
  obtain ⟨q2, hf⟩ := cl_grd hf
  obtain ⟨M3, eM3, hf⟩ := cl_let_e hf
  refine cr_iast C hw (sh_6_5 ht0).1 (sh_6_5 ht0).2 q2 (k := (v1).toNatClampNeg) rfl eM3 dX6_doSmoke_19 (fun H locs hw => ?_)
  refine lv_aload_n hx hb dX6_doSmoke_20 rfl (lv_at hl 1 rfl) ?_
  refine fg_X6_17 C hw ht0 dX6_doSmoke_21 ?_
  refine lv_iload_n hx hb dX6_doSmoke_24 rfl (lv_at hl 0 rfl) ?_
  refine lv_iconst (v := 1) hx hb dX6_doSmoke_25 (by decide) ?_
  refine lv_iadd hx hb dX6_doSmoke_26 ?_
  refine lv_iload_n hx hb dX6_doSmoke_27 rfl (lv_at hl 3 rfl) ?_
  obtain ⟨q4, hf⟩ := cl_grd hf
  obtain ⟨M5, eM5, hf⟩ := cl_let_e hf
  refine cr_iast C hw (sh_6_5 ht0).1 (sh_6_5 ht0).2 q4 (k := (v1 + 1).toNatClampNeg) rfl eM5 dX6_doSmoke_28 (fun H locs hw => ?_)
  refine lv_aload_n hx hb dX6_doSmoke_29 rfl (lv_at hl 1 rfl) ?_
  refine fg_X6_17 C hw ht0 dX6_doSmoke_30 ?_
  refine lv_bipush (v := 6) hx hb dX6_doSmoke_33 (by decide) ?_
  refine lv_dup2_11 hx hb dX6_doSmoke_35 rfl rfl ?_
  refine cr_iald C hw (sh_6_5 ht0).1 (sh_6_5 ht0).2 (by decide) (k := 6) rfl dX6_doSmoke_36 ?_
  refine lv_iconst (v := 1) hx hb dX6_doSmoke_37 (by decide) ?_
  refine lv_iadd hx hb dX6_doSmoke_38 ?_
  obtain ⟨M6, eM6, hf⟩ := cl_let_e hf
  refine cr_iast C hw (sh_6_5 ht0).1 (sh_6_5 ht0).2 (by decide) (k := 6) rfl eM6 dX6_doSmoke_39 (fun H locs hw => ?_)
  refine lv_aload_n hx hb dX6_doSmoke_40 rfl (lv_at hl 1 rfl) ?_
  refine fg_X6_17 C hw ht0 dX6_doSmoke_41 ?_
  refine lv_bipush (v := 6) hx hb dX6_doSmoke_44 (by decide) ?_
  refine cr_iald C hw (sh_6_5 ht0).1 (sh_6_5 ht0).2 (by decide) (k := 6) rfl dX6_doSmoke_46 ?_
  obtain ⟨rfl, rfl⟩ := cl_pair hf
  exact cr_reti C hw dX6_doSmoke_47
set_option maxRecDepth 100000 in
theorem c_X6_doSmoke {l : Launch} {dd : cl_D} {b : Nat} (hlt : l.stackTraces = false) {M : cl_M} {t0 : Nat} {a1 : Int32} {a2 : Int32}  {r : Int32} {M' : cl_M} (ht0 : cl_sh dd t0 = 6) (h : f_X6_doSmoke M t0 a1 a2 = some (r, M')) : cl_Mi l dd b yX6_doSmoke cX6_doSmoke 4 (some .int) 0 0 [.ref (b + t0), .int a1, .int a2] M r M' :=
  cl_of hlt (by decide) (Nat.le_of_ble_eq_true rfl) (fun p e s m below meth c ls C hw hl => k_X6_doSmoke C M t0 a1 a2 r M' h _ _ _ ht0 hw (lv_sub hl [0, 1, 2] rfl))
theorem cy_X6_doSmoke : cl_cy yX6_doSmoke cX6_doSmoke 4 (some .int) 2 := ⟨in_ClothesLineModel, cd_X6_doSmoke, by decide +kernel, by decide +kernel, by decide +kernel⟩
theorem vy_X6_doSmoke : cl_vy yX6_doSmoke := ⟨im_X6_doSmoke, se_X6_doSmoke⟩
def f_X6_doWind (M : cl_M) (t0 : Nat) (a1 : Int32) (a2 : Int32) : Option (Int32 × cl_M) := if cl_inb (11 + a1) 149 = true then cl_let (M (t0 + 2) ((11 + a1).toNatClampNeg)) (fun v2 => if cl_inb (11 + a1) 149 = true then cl_let (cl_ms M (t0 + 2) (11 + a1).toNatClampNeg a2) (fun M4 => some (v2, M4)) else none) else none
set_option maxHeartbeats 4000000 in
set_option maxRecDepth 100000 in
theorem k_X6_doWind {p : Program} {l : Launch} {e : Env} {s : State} {m : MethodId} {args : Array Value} {below : List Frame} {meth : Method} {c : Code} {dd : cl_D} {b : Nat} (C : cl_C p l s m args meth c cX6_doWind RX6 4 (some .int) dd b) : ∀ (M : cl_M) (t0 : Nat) (a1 : Int32) (a2 : Int32) (r : Int32) (M' : cl_M), f_X6_doWind M t0 a1 a2 = some (r, M') → ∀ (H : Heap) (locs : List Loc) (ls : Array Slot), cl_sh dd t0 = 6 → cl_H dd b M s H locs → lv_has ls 4 [(0, .ref (b + t0)), (1, .int a1), (2, .int a2)] → W p l e { frames := 0, cells := 0, slots := 0, locals := 0 } s m args below meth c H locs 0 0 (cl_Zi below args s dd b r M') (F0 m 0 ls []) := by
  have hx := C.1
  have hb := C.2.1
  have hlt := C.2.2.2.2.2.2.2.2.2.2
  have hRr := C.2.2.2.2.2.2.2.2.2.1
  intro M t0 a1 a2 r M' hf H locs ls ht0 hw hl
  unfold f_X6_doWind at hf
  refine lv_aload_n hx hb dX6_doWind_0 rfl (lv_at hl 0 rfl) ?_
  refine fg_X6_17 C hw ht0 dX6_doWind_1 ?_
  refine lv_bipush (v := 11) hx hb dX6_doWind_4 (by decide) ?_
  refine lv_iload_n hx hb dX6_doWind_6 rfl (lv_at hl 1 rfl) ?_
  refine lv_iadd hx hb dX6_doWind_7 ?_
  obtain ⟨q1, hf⟩ := cl_grd hf
  refine cr_iald C hw (sh_6_5 ht0).1 (sh_6_5 ht0).2 q1 (k := (11 + a1).toNatClampNeg) rfl dX6_doWind_8 ?_
  obtain ⟨v2, ev2, hf⟩ := cl_let_e hf
  refine cr_top ev2 ?_
  refine lv_istore_n (lv' := [(3, .int v2), (0, .ref (b + t0)), (1, .int a1), (2, .int a2)]) hx hb dX6_doWind_9 rfl hl (by decide) rfl (fun ls hl => ?_)
  refine lv_aload_n hx hb dX6_doWind_10 rfl (lv_at hl 1 rfl) ?_
  refine fg_X6_17 C hw ht0 dX6_doWind_11 ?_
  refine lv_bipush (v := 11) hx hb dX6_doWind_14 (by decide) ?_
  refine lv_iload_n hx hb dX6_doWind_16 rfl (lv_at hl 2 rfl) ?_
  refine lv_iadd hx hb dX6_doWind_17 ?_
  refine lv_iload_n hx hb dX6_doWind_18 rfl (lv_at hl 3 rfl) ?_
  obtain ⟨q3, hf⟩ := cl_grd hf
  obtain ⟨M4, eM4, hf⟩ := cl_let_e hf
  refine cr_iast C hw (sh_6_5 ht0).1 (sh_6_5 ht0).2 q3 (k := (11 + a1).toNatClampNeg) rfl eM4 dX6_doWind_19 (fun H locs hw => ?_)
  refine lv_iload_n hx hb dX6_doWind_20 rfl (lv_at hl 0 rfl) ?_
  obtain ⟨rfl, rfl⟩ := cl_pair hf
  exact cr_reti C hw dX6_doWind_21
set_option maxRecDepth 100000 in
theorem c_X6_doWind {l : Launch} {dd : cl_D} {b : Nat} (hlt : l.stackTraces = false) {M : cl_M} {t0 : Nat} {a1 : Int32} {a2 : Int32}  {r : Int32} {M' : cl_M} (ht0 : cl_sh dd t0 = 6) (h : f_X6_doWind M t0 a1 a2 = some (r, M')) : cl_Mi l dd b yX6_doWind cX6_doWind 4 (some .int) 0 0 [.ref (b + t0), .int a1, .int a2] M r M' :=
  cl_of hlt (by decide) (Nat.le_of_ble_eq_true rfl) (fun p e s m below meth c ls C hw hl => k_X6_doWind C M t0 a1 a2 r M' h _ _ _ ht0 hw (lv_sub hl [0, 1, 2] rfl))
theorem cy_X6_doWind : cl_cy yX6_doWind cX6_doWind 4 (some .int) 2 := ⟨in_ClothesLineModel, cd_X6_doWind, by decide +kernel, by decide +kernel, by decide +kernel⟩
theorem vy_X6_doWind : cl_vy yX6_doWind := ⟨im_X6_doWind, se_X6_doWind⟩
def f_X6_byteOf_45 (M : cl_M) (a5 : Int32) (z0 : Int32) : Option (Int32) := some ((z0 >>> ((24 - (8 * (a5 - a5 / 4 * 4))) &&& 31)) &&& 255)
set_option maxHeartbeats 4000000 in
set_option maxRecDepth 100000 in
theorem k_X6_byteOf_45 {p : Program} {l : Launch} {e : Env} {s : State} {m : MethodId} {args : Array Value} {below : List Frame} {meth : Method} {c : Code} {dd : cl_D} {b : Nat} (C : cl_C p l s m args meth c cX6_byteOf RX6 7 (some .int) dd b) : ∀ (M : cl_M) (a5 : Int32) (z0 : Int32) (r : Int32), f_X6_byteOf_45 M a5 z0 = some r → ∀ (H : Heap) (locs : List Loc) (ls : Array Slot), cl_H dd b M s H locs → lv_has ls 7 [(5, .int a5)] → W p l e { frames := 0, cells := 0, slots := 0, locals := 0 } s m args below meth c H locs 0 0 (cl_Zi below args s dd b r M) (F0 m 45 ls [.int z0]) := by
  have hx := C.1
  have hb := C.2.1
  have hlt := C.2.2.2.2.2.2.2.2.2.2
  have hRr := C.2.2.2.2.2.2.2.2.2.1
  intro M a5 z0 r hf H locs ls hw hl
  unfold f_X6_byteOf_45 at hf
  refine lv_istore (lv' := [(6, .int z0), (5, .int a5)]) hx hb dX6_byteOf_45 hl (by decide) rfl (fun ls hl => ?_)
  refine lv_iload hx hb dX6_byteOf_47 (lv_at hl 0 rfl) ?_
  refine lv_bipush (v := 24) hx hb dX6_byteOf_49 (by decide) ?_
  refine lv_bipush (v := 8) hx hb dX6_byteOf_51 (by decide) ?_
  refine lv_iload hx hb dX6_byteOf_53 (lv_at hl 1 rfl) ?_
  refine lv_iconst (v := 4) hx hb dX6_byteOf_55 (by decide) ?_
  refine lv_irem hx hb dX6_byteOf_56 (by decide) ?_
  refine lv_imul hx hb dX6_byteOf_57 ?_
  refine lv_isub hx hb dX6_byteOf_58 ?_
  refine lv_ishr hx hb dX6_byteOf_59 ?_
  refine lv_sipush (v := 255) hx hb dX6_byteOf_60 (by decide) ?_
  refine lv_iand hx hb dX6_byteOf_63 ?_
  obtain rfl := Option.some.inj hf
  exact cr_reti C hw dX6_byteOf_64
def f_X6_byteOf (M : cl_M) (a0 : Int32) (a1 : Int32) (a2 : Int32) (a3 : Int32) (a4 : Int32) (a5 : Int32) : Option (Int32) := if 4 ≤ a5 then if 8 ≤ a5 then if 12 ≤ a5 then if 16 ≤ a5 then f_X6_byteOf_45 M a5 a4 else f_X6_byteOf_45 M a5 a3 else f_X6_byteOf_45 M a5 a2 else f_X6_byteOf_45 M a5 a1 else f_X6_byteOf_45 M a5 a0
set_option maxHeartbeats 4000000 in
set_option maxRecDepth 100000 in
theorem k_X6_byteOf {p : Program} {l : Launch} {e : Env} {s : State} {m : MethodId} {args : Array Value} {below : List Frame} {meth : Method} {c : Code} {dd : cl_D} {b : Nat} (C : cl_C p l s m args meth c cX6_byteOf RX6 7 (some .int) dd b) : ∀ (M : cl_M) (a0 : Int32) (a1 : Int32) (a2 : Int32) (a3 : Int32) (a4 : Int32) (a5 : Int32) (r : Int32), f_X6_byteOf M a0 a1 a2 a3 a4 a5 = some r → ∀ (H : Heap) (locs : List Loc) (ls : Array Slot), cl_H dd b M s H locs → lv_has ls 7 [(0, .int a0), (1, .int a1), (2, .int a2), (3, .int a3), (4, .int a4), (5, .int a5)] → W p l e { frames := 0, cells := 0, slots := 0, locals := 0 } s m args below meth c H locs 0 0 (cl_Zi below args s dd b r M) (F0 m 0 ls []) := by
  have hx := C.1
  have hb := C.2.1
  have hlt := C.2.2.2.2.2.2.2.2.2.2
  have hRr := C.2.2.2.2.2.2.2.2.2.1
  intro M a0 a1 a2 a3 a4 a5 r hf H locs ls hw hl
  unfold f_X6_byteOf at hf
  refine lv_iload hx hb dX6_byteOf_0 (lv_at hl 5 rfl) ?_
  refine lv_iconst (v := 4) hx hb dX6_byteOf_2 (by decide) ?_
  refine lv_icmp_ge (tgt := 10) hx hb dX6_byteOf_3 (by decide) (fun c1 => ?_) (fun c1 => ?_)
  · have hf := cl_yes c1 hf
    refine lv_iload hx hb dX6_byteOf_10 (lv_at hl 5 rfl) ?_
    refine lv_bipush (v := 8) hx hb dX6_byteOf_12 (by decide) ?_
    refine lv_icmp_ge (tgt := 21) hx hb dX6_byteOf_14 (by decide) (fun c2 => ?_) (fun c2 => ?_)
    · have hf := cl_yes c2 hf
      refine lv_iload hx hb dX6_byteOf_21 (lv_at hl 5 rfl) ?_
      refine lv_bipush (v := 12) hx hb dX6_byteOf_23 (by decide) ?_
      refine lv_icmp_ge (tgt := 32) hx hb dX6_byteOf_25 (by decide) (fun c3 => ?_) (fun c3 => ?_)
      · have hf := cl_yes c3 hf
        refine lv_iload hx hb dX6_byteOf_32 (lv_at hl 5 rfl) ?_
        refine lv_bipush (v := 16) hx hb dX6_byteOf_34 (by decide) ?_
        refine lv_icmp_ge (tgt := 43) hx hb dX6_byteOf_36 (by decide) (fun c4 => ?_) (fun c4 => ?_)
        · have hf := cl_yes c4 hf
          refine lv_iload hx hb dX6_byteOf_43 (lv_at hl 4 rfl) ?_
          exact k_X6_byteOf_45 C M a5 a4 _ hf _ _ _ hw (lv_sub hl [5] rfl)
        · have hf := cl_no c4 hf
          refine lv_iload_n hx hb dX6_byteOf_39 rfl (lv_at hl 3 rfl) ?_
          refine lv_goto (tgt := 45) hx hb dX6_byteOf_40 (by decide) ?_
          exact k_X6_byteOf_45 C M a5 a3 _ hf _ _ _ hw (lv_sub hl [5] rfl)
      · have hf := cl_no c3 hf
        refine lv_iload_n hx hb dX6_byteOf_28 rfl (lv_at hl 2 rfl) ?_
        refine lv_goto (tgt := 45) hx hb dX6_byteOf_29 (by decide) ?_
        exact k_X6_byteOf_45 C M a5 a2 _ hf _ _ _ hw (lv_sub hl [5] rfl)
    · have hf := cl_no c2 hf
      refine lv_iload_n hx hb dX6_byteOf_17 rfl (lv_at hl 1 rfl) ?_
      refine lv_goto (tgt := 45) hx hb dX6_byteOf_18 (by decide) ?_
      exact k_X6_byteOf_45 C M a5 a1 _ hf _ _ _ hw (lv_sub hl [5] rfl)
  · have hf := cl_no c1 hf
    refine lv_iload_n hx hb dX6_byteOf_6 rfl (lv_at hl 0 rfl) ?_
    refine lv_goto (tgt := 45) hx hb dX6_byteOf_7 (by decide) ?_
    exact k_X6_byteOf_45 C M a5 a0 _ hf _ _ _ hw (lv_sub hl [5] rfl)
set_option maxRecDepth 100000 in
theorem c_X6_byteOf {l : Launch} {dd : cl_D} {b : Nat} (hlt : l.stackTraces = false) {M : cl_M} {a0 : Int32} {a1 : Int32} {a2 : Int32} {a3 : Int32} {a4 : Int32} {a5 : Int32}  {r : Int32} (h : f_X6_byteOf M a0 a1 a2 a3 a4 a5 = some r) : cl_Mi l dd b yX6_byteOf cX6_byteOf 7 (some .int) 0 0 [.int a0, .int a1, .int a2, .int a3, .int a4, .int a5] M r M :=
  cl_of hlt (by decide) (Nat.le_of_ble_eq_true rfl) (fun p e s m below meth c ls C hw hl => k_X6_byteOf C M a0 a1 a2 a3 a4 a5 r h _ _ _ hw (lv_sub hl [0, 1, 2, 3, 4, 5] rfl))
theorem cy_X6_byteOf : cl_cy yX6_byteOf cX6_byteOf 7 (some .int) 6 := ⟨in_ClothesLineModel, cd_X6_byteOf, by decide +kernel, by decide +kernel, by decide +kernel⟩
def f_X6_feed_117 (r70 : cl_M → Nat → Int32 → Int32 → Int32 → Int32 → Int32 → Int32 → Option (Int32 × cl_M)) (M : cl_M) (t0 : Nat) (a1 : Int32) (a2 : Int32) (a3 : Int32) (a4 : Int32) (a5 : Int32) (a7 : Int32) : Option (Int32 × cl_M) := cl_let (a7 + 1) (fun v8 => r70 M t0 a1 a2 a3 a4 a5 v8)
set_option maxHeartbeats 4000000 in
set_option maxRecDepth 100000 in
theorem k_X6_feed_117 {p : Program} {l : Launch} {e : Env} {s : State} {m : MethodId} {args : Array Value} {below : List Frame} {meth : Method} {c : Code} {dd : cl_D} {b : Nat} (C : cl_C p l s m args meth c cX6_feed RX6 9 (some .int) dd b) {r70 : cl_M → Nat → Int32 → Int32 → Int32 → Int32 → Int32 → Int32 → Option (Int32 × cl_M)} (hr70 : ∀ (M : cl_M) (t0 : Nat) (a1 : Int32) (a2 : Int32) (a3 : Int32) (a4 : Int32) (a5 : Int32) (a7 : Int32) (r : Int32) (M' : cl_M), r70 M t0 a1 a2 a3 a4 a5 a7 = some (r, M') → ∀ (H : Heap) (locs : List Loc) (ls : Array Slot), cl_sh dd t0 = 6 → cl_H dd b M s H locs → lv_has ls 9 [(0, .ref (b + t0)), (1, .int a1), (2, .int a2), (3, .int a3), (4, .int a4), (5, .int a5), (7, .int a7)] → W p l e { frames := 1, cells := 0, slots := 0, locals := 26 } s m args below meth c H locs 0 0 (cl_Zi below args s dd b r M') (F0 m 70 ls [])) : ∀ (M : cl_M) (t0 : Nat) (a1 : Int32) (a2 : Int32) (a3 : Int32) (a4 : Int32) (a5 : Int32) (a7 : Int32) (r : Int32) (M' : cl_M), f_X6_feed_117 r70 M t0 a1 a2 a3 a4 a5 a7 = some (r, M') → ∀ (H : Heap) (locs : List Loc) (ls : Array Slot), cl_sh dd t0 = 6 → cl_H dd b M s H locs → lv_has ls 9 [(0, .ref (b + t0)), (1, .int a1), (2, .int a2), (3, .int a3), (4, .int a4), (5, .int a5), (7, .int a7)] → W p l e { frames := 1, cells := 0, slots := 0, locals := 26 } s m args below meth c H locs 0 0 (cl_Zi below args s dd b r M') (F0 m 117 ls []) := by
  have hx := C.1
  have hb := C.2.1
  have hlt := C.2.2.2.2.2.2.2.2.2.2
  have hRr := C.2.2.2.2.2.2.2.2.2.1
  intro M t0 a1 a2 a3 a4 a5 a7 r M' hf H locs ls ht0 hw hl
  unfold f_X6_feed_117 at hf
  obtain ⟨v8, ev8, hf⟩ := cl_let_e hf
  refine lv_iinc (v := v8) (lv' := [(7, .int v8), (0, .ref (b + t0)), (1, .int a1), (2, .int a2), (3, .int a3), (4, .int a4), (5, .int a5)]) hx hb dX6_feed_117 hl (k := 6) rfl (by rw [ev8]; rfl) (by decide) rfl (fun ls hl => ?_)
  refine lv_goto (tgt := 70) hx hb dX6_feed_120 (by decide) ?_
  exact hr70 M t0 a1 a2 a3 a4 a5 v8 _ _ hf _ _ _ ht0 hw (lv_sub hl [1, 2, 3, 4, 5, 6, 0] rfl)
def f_X6_feed_70 : Nat → cl_M → Nat → Int32 → Int32 → Int32 → Int32 → Int32 → Int32 → Option (Int32 × cl_M)
  | 0, _, _, _, _, _, _, _, _ => none
  | k + 1, M, t0, a1, a2, a3, a4, a5, a7 => if 20 ≤ a7 then some (M t0 1, M) else (f_X6_byteOf M a1 a2 a3 a4 a5 a7).bind (fun v5 => if v5 = 0 then f_X6_feed_117 (f_X6_feed_70 k) M t0 a1 a2 a3 a4 a5 a7 else if cl_inb (M t0 1) 700 = true then cl_let (cl_ms M (t0 + 1) (M t0 1).toNatClampNeg v5) (fun M10 => cl_let (cl_ms M10 t0 1 ((M10 t0 1) + 1)) (fun M11 => f_X6_feed_117 (f_X6_feed_70 k) M11 t0 a1 a2 a3 a4 a5 a7)) else none)
set_option maxHeartbeats 4000000 in
set_option maxRecDepth 100000 in
theorem k_X6_feed_70 {p : Program} {l : Launch} {e : Env} {s : State} {m : MethodId} {args : Array Value} {below : List Frame} {meth : Method} {c : Code} {dd : cl_D} {b : Nat} (C : cl_C p l s m args meth c cX6_feed RX6 9 (some .int) dd b) : ∀ (k : Nat), ∀ (M : cl_M) (t0 : Nat) (a1 : Int32) (a2 : Int32) (a3 : Int32) (a4 : Int32) (a5 : Int32) (a7 : Int32) (r : Int32) (M' : cl_M), f_X6_feed_70 k M t0 a1 a2 a3 a4 a5 a7 = some (r, M') → ∀ (H : Heap) (locs : List Loc) (ls : Array Slot), cl_sh dd t0 = 6 → cl_H dd b M s H locs → lv_has ls 9 [(0, .ref (b + t0)), (1, .int a1), (2, .int a2), (3, .int a3), (4, .int a4), (5, .int a5), (7, .int a7)] → W p l e { frames := 1, cells := 0, slots := 0, locals := 26 } s m args below meth c H locs 0 0 (cl_Zi below args s dd b r M') (F0 m 70 ls []) := by
  have hx := C.1
  have hb := C.2.1
  have hlt := C.2.2.2.2.2.2.2.2.2.2
  have hRr := C.2.2.2.2.2.2.2.2.2.1
  intro k
  induction k with
  | zero =>
    intro M t0 a1 a2 a3 a4 a5 a7 r M' hf H locs ls ht0 hw hl
    rw [f_X6_feed_70] at hf
    cases hf
  | succ k ih =>
    intro M t0 a1 a2 a3 a4 a5 a7 r M' hf H locs ls ht0 hw hl
    rw [f_X6_feed_70] at hf
    refine lv_iload hx hb dX6_feed_70 (lv_at hl 6 rfl) ?_
    refine lv_bipush (v := 20) hx hb dX6_feed_72 (by decide) ?_
    refine lv_icmp_ge (tgt := 123) hx hb dX6_feed_74 (by decide) (fun c4 => ?_) (fun c4 => ?_)
    · have hf := cl_yes c4 hf
      refine lv_aload_n hx hb dX6_feed_123 rfl (lv_at hl 0 rfl) ?_
      refine fg_X6_54 C hw ht0 dX6_feed_124 ?_
      obtain ⟨rfl, rfl⟩ := cl_pair hf
      exact cr_reti C hw dX6_feed_127
    · have hf := cl_no c4 hf
      refine lv_iload_n hx hb dX6_feed_77 rfl (lv_at hl 1 rfl) ?_
      refine lv_iload_n hx hb dX6_feed_78 rfl (lv_at hl 2 rfl) ?_
      refine lv_iload_n hx hb dX6_feed_79 rfl (lv_at hl 3 rfl) ?_
      refine lv_iload hx hb dX6_feed_80 (lv_at hl 4 rfl) ?_
      refine lv_iload hx hb dX6_feed_82 (lv_at hl 5 rfl) ?_
      refine lv_iload hx hb dX6_feed_84 (lv_at hl 6 rfl) ?_
      obtain ⟨v5, e6, hf⟩ := cl_bind_e hf
      refine cr_Si C hw (c_X6_byteOf hlt e6) cy_X6_byteOf st_X6_byteOf ml_X6_156 (As := [.int a1, .int a2, .int a3, .int a4, .int a5, .int a7]) rfl hl.1 rfl ⟨⟨Nat.le_of_ble_eq_true rfl, Nat.le_of_ble_eq_true rfl⟩, Nat.le_of_ble_eq_true rfl, Nat.le_of_ble_eq_true rfl, Nat.le_of_ble_eq_true rfl⟩ dX6_feed_86 (fun H locs hw => ?_)
      refine lv_istore (lv' := [(8, .int v5), (0, .ref (b + t0)), (1, .int a1), (2, .int a2), (3, .int a3), (4, .int a4), (5, .int a5), (7, .int a7)]) hx hb dX6_feed_89 hl (by decide) rfl (fun ls hl => ?_)
      refine lv_iload hx hb dX6_feed_91 (lv_at hl 0 rfl) ?_
      refine lv_if_eq (tgt := 117) hx hb dX6_feed_93 (by decide) (fun c7 => ?_) (fun c7 => ?_)
      · have hf := cl_yes c7 hf
        exact k_X6_feed_117 C ih M t0 a1 a2 a3 a4 a5 a7 _ _ hf _ _ _ ht0 hw (lv_sub hl [1, 2, 3, 4, 5, 6, 7] rfl)
      · have hf := cl_no c7 hf
        refine lv_aload_n hx hb dX6_feed_96 rfl (lv_at hl 1 rfl) ?_
        refine fg_X6_7 C hw ht0 dX6_feed_97 ?_
        refine lv_aload_n hx hb dX6_feed_100 rfl (lv_at hl 1 rfl) ?_
        refine fg_X6_54 C hw ht0 dX6_feed_101 ?_
        refine lv_iload hx hb dX6_feed_104 (lv_at hl 0 rfl) ?_
        obtain ⟨q9, hf⟩ := cl_grd hf
        obtain ⟨M10, eM10, hf⟩ := cl_let_e hf
        refine cr_iast C hw (sh_6_0 ht0).1 (sh_6_0 ht0).2 q9 (k := (M t0 1).toNatClampNeg) rfl eM10 dX6_feed_106 (fun H locs hw => ?_)
        refine lv_aload_n hx hb dX6_feed_107 rfl (lv_at hl 1 rfl) ?_
        refine lv_dup hx hb dX6_feed_108 rfl ?_
        refine fg_X6_54 C hw ht0 dX6_feed_109 ?_
        refine lv_iconst (v := 1) hx hb dX6_feed_112 (by decide) ?_
        refine lv_iadd hx hb dX6_feed_113 ?_
        obtain ⟨M11, eM11, hf⟩ := cl_let_e hf
        refine fp_X6_54 C hw ht0 eM11 dX6_feed_114 (fun H locs hw => ?_)
        exact k_X6_feed_117 C ih M11 t0 a1 a2 a3 a4 a5 a7 _ _ hf _ _ _ ht0 hw (lv_sub hl [1, 2, 3, 4, 5, 6, 7] rfl)
def f_X6_feed_40 (r11 : cl_M → Nat → Int32 → Int32 → Int32 → Int32 → Int32 → Int32 → Int32 → Option (Int32 × cl_M)) (M : cl_M) (t0 : Nat) (a1 : Int32) (a2 : Int32) (a3 : Int32) (a4 : Int32) (a5 : Int32) (a7 : Int32) (z0 : Int32) (z1 : Int32) : Option (Int32 × cl_M) := (f_X6_flag M z0).bind (fun v15 => cl_let (z1 + v15) (fun v17 => cl_let (a7 + 1) (fun v18 => r11 M t0 a1 a2 a3 a4 a5 v17 v18)))
set_option maxHeartbeats 4000000 in
set_option maxRecDepth 100000 in
theorem k_X6_feed_40 {p : Program} {l : Launch} {e : Env} {s : State} {m : MethodId} {args : Array Value} {below : List Frame} {meth : Method} {c : Code} {dd : cl_D} {b : Nat} (C : cl_C p l s m args meth c cX6_feed RX6 9 (some .int) dd b) {r11 : cl_M → Nat → Int32 → Int32 → Int32 → Int32 → Int32 → Int32 → Int32 → Option (Int32 × cl_M)} (hr11 : ∀ (M : cl_M) (t0 : Nat) (a1 : Int32) (a2 : Int32) (a3 : Int32) (a4 : Int32) (a5 : Int32) (a6 : Int32) (a7 : Int32) (r : Int32) (M' : cl_M), r11 M t0 a1 a2 a3 a4 a5 a6 a7 = some (r, M') → ∀ (H : Heap) (locs : List Loc) (ls : Array Slot), cl_sh dd t0 = 6 → cl_H dd b M s H locs → lv_has ls 9 [(0, .ref (b + t0)), (1, .int a1), (2, .int a2), (3, .int a3), (4, .int a4), (5, .int a5), (6, .int a6), (7, .int a7)] → W p l e { frames := 1, cells := 0, slots := 0, locals := 26 } s m args below meth c H locs 0 0 (cl_Zi below args s dd b r M') (F0 m 11 ls [])) : ∀ (M : cl_M) (t0 : Nat) (a1 : Int32) (a2 : Int32) (a3 : Int32) (a4 : Int32) (a5 : Int32) (a7 : Int32) (z0 : Int32) (z1 : Int32) (r : Int32) (M' : cl_M), f_X6_feed_40 r11 M t0 a1 a2 a3 a4 a5 a7 z0 z1 = some (r, M') → ∀ (H : Heap) (locs : List Loc) (ls : Array Slot), cl_sh dd t0 = 6 → cl_H dd b M s H locs → lv_has ls 9 [(0, .ref (b + t0)), (1, .int a1), (2, .int a2), (3, .int a3), (4, .int a4), (5, .int a5), (7, .int a7)] → W p l e { frames := 1, cells := 0, slots := 0, locals := 26 } s m args below meth c H locs 0 0 (cl_Zi below args s dd b r M') (F0 m 40 ls [.int z0, .int z1]) := by
  have hx := C.1
  have hb := C.2.1
  have hlt := C.2.2.2.2.2.2.2.2.2.2
  have hRr := C.2.2.2.2.2.2.2.2.2.1
  intro M t0 a1 a2 a3 a4 a5 a7 z0 z1 r M' hf H locs ls ht0 hw hl
  unfold f_X6_feed_40 at hf
  obtain ⟨v15, e16, hf⟩ := cl_bind_e hf
  refine cr_Si C hw (c_X6_flag hlt e16) cy_X6_flag st_X6_flag ml_X6_146 (As := [.int z0]) rfl hl.1 rfl ⟨⟨Nat.le_of_ble_eq_true rfl, Nat.le_of_ble_eq_true rfl⟩, Nat.le_of_ble_eq_true rfl, Nat.le_of_ble_eq_true rfl, Nat.le_of_ble_eq_true rfl⟩ dX6_feed_40 (fun H locs hw => ?_)
  refine lv_iadd hx hb dX6_feed_43 ?_
  obtain ⟨v17, ev17, hf⟩ := cl_let_e hf
  refine cr_top ev17 ?_
  refine lv_istore (lv' := [(6, .int v17), (0, .ref (b + t0)), (1, .int a1), (2, .int a2), (3, .int a3), (4, .int a4), (5, .int a5), (7, .int a7)]) hx hb dX6_feed_44 hl (by decide) rfl (fun ls hl => ?_)
  obtain ⟨v18, ev18, hf⟩ := cl_let_e hf
  refine lv_iinc (v := v18) (lv' := [(7, .int v18), (6, .int v17), (0, .ref (b + t0)), (1, .int a1), (2, .int a2), (3, .int a3), (4, .int a4), (5, .int a5)]) hx hb dX6_feed_46 hl (k := 7) rfl (by rw [ev18]; rfl) (by decide) rfl (fun ls hl => ?_)
  refine lv_goto (tgt := 11) hx hb dX6_feed_49 (by decide) ?_
  exact hr11 M t0 a1 a2 a3 a4 a5 v17 v18 _ _ hf _ _ _ ht0 hw (lv_sub hl [2, 3, 4, 5, 6, 7, 1, 0] rfl)
def f_X6_feed_11 : Nat → cl_M → Nat → Int32 → Int32 → Int32 → Int32 → Int32 → Int32 → Int32 → Option (Int32 × cl_M)
  | 0, _, _, _, _, _, _, _, _, _ => none
  | k + 1, M, t0, a1, a2, a3, a4, a5, a6, a7 => if 20 ≤ a7 then if ((M t0 1) + a6) ≤ 700 then f_X6_feed_70 cl_F M t0 a1 a2 a3 a4 a5 0 else some ((-1), M) else (f_X6_byteOf M a1 a2 a3 a4 a5 a7).bind (fun v12 => if v12 = 0 then f_X6_feed_40 (f_X6_feed_11 k) M t0 a1 a2 a3 a4 a5 a7 0 a6 else f_X6_feed_40 (f_X6_feed_11 k) M t0 a1 a2 a3 a4 a5 a7 1 a6)
set_option maxHeartbeats 4000000 in
set_option maxRecDepth 100000 in
theorem k_X6_feed_11 {p : Program} {l : Launch} {e : Env} {s : State} {m : MethodId} {args : Array Value} {below : List Frame} {meth : Method} {c : Code} {dd : cl_D} {b : Nat} (C : cl_C p l s m args meth c cX6_feed RX6 9 (some .int) dd b) : ∀ (k : Nat), ∀ (M : cl_M) (t0 : Nat) (a1 : Int32) (a2 : Int32) (a3 : Int32) (a4 : Int32) (a5 : Int32) (a6 : Int32) (a7 : Int32) (r : Int32) (M' : cl_M), f_X6_feed_11 k M t0 a1 a2 a3 a4 a5 a6 a7 = some (r, M') → ∀ (H : Heap) (locs : List Loc) (ls : Array Slot), cl_sh dd t0 = 6 → cl_H dd b M s H locs → lv_has ls 9 [(0, .ref (b + t0)), (1, .int a1), (2, .int a2), (3, .int a3), (4, .int a4), (5, .int a5), (6, .int a6), (7, .int a7)] → W p l e { frames := 1, cells := 0, slots := 0, locals := 26 } s m args below meth c H locs 0 0 (cl_Zi below args s dd b r M') (F0 m 11 ls []) := by
  have hx := C.1
  have hb := C.2.1
  have hlt := C.2.2.2.2.2.2.2.2.2.2
  have hRr := C.2.2.2.2.2.2.2.2.2.1
  intro k
  induction k with
  | zero =>
    intro M t0 a1 a2 a3 a4 a5 a6 a7 r M' hf H locs ls ht0 hw hl
    rw [f_X6_feed_11] at hf
    cases hf
  | succ k ih =>
    intro M t0 a1 a2 a3 a4 a5 a6 a7 r M' hf H locs ls ht0 hw hl
    rw [f_X6_feed_11] at hf
    refine lv_iload hx hb dX6_feed_11 (lv_at hl 7 rfl) ?_
    refine lv_bipush (v := 20) hx hb dX6_feed_13 (by decide) ?_
    refine lv_icmp_ge (tgt := 52) hx hb dX6_feed_15 (by decide) (fun c2 => ?_) (fun c2 => ?_)
    · have hf := cl_yes c2 hf
      refine lv_aload_n hx hb dX6_feed_52 rfl (lv_at hl 0 rfl) ?_
      refine fg_X6_54 C hw ht0 dX6_feed_53 ?_
      refine lv_iload hx hb dX6_feed_56 (lv_at hl 6 rfl) ?_
      refine lv_iadd hx hb dX6_feed_58 ?_
      refine lv_sipush (v := 700) hx hb dX6_feed_59 (by decide) ?_
      refine lv_icmp_le (tgt := 67) hx hb dX6_feed_62 (by decide) (fun c3 => ?_) (fun c3 => ?_)
      · have hf := cl_yes c3 hf
        refine lv_iconst (v := 0) hx hb dX6_feed_67 (by decide) ?_
        refine lv_istore (lv' := [(7, .int 0), (0, .ref (b + t0)), (1, .int a1), (2, .int a2), (3, .int a3), (4, .int a4), (5, .int a5), (6, .int a6)]) hx hb dX6_feed_68 hl (by decide) rfl (fun ls hl => ?_)
        exact k_X6_feed_70 C cl_F M t0 a1 a2 a3 a4 a5 0 _ _ hf _ _ _ ht0 hw (lv_sub hl [1, 2, 3, 4, 5, 6, 0] rfl)
      · have hf := cl_no c3 hf
        refine lv_iconst (v := (-1)) hx hb dX6_feed_65 (by decide) ?_
        obtain ⟨rfl, rfl⟩ := cl_pair hf
        exact cr_reti C hw dX6_feed_66
    · have hf := cl_no c2 hf
      refine lv_iload hx hb dX6_feed_18 (lv_at hl 6 rfl) ?_
      refine lv_iload_n hx hb dX6_feed_20 rfl (lv_at hl 1 rfl) ?_
      refine lv_iload_n hx hb dX6_feed_21 rfl (lv_at hl 2 rfl) ?_
      refine lv_iload_n hx hb dX6_feed_22 rfl (lv_at hl 3 rfl) ?_
      refine lv_iload hx hb dX6_feed_23 (lv_at hl 4 rfl) ?_
      refine lv_iload hx hb dX6_feed_25 (lv_at hl 5 rfl) ?_
      refine lv_iload hx hb dX6_feed_27 (lv_at hl 7 rfl) ?_
      obtain ⟨v12, e13, hf⟩ := cl_bind_e hf
      refine cr_Si C hw (c_X6_byteOf hlt e13) cy_X6_byteOf st_X6_byteOf ml_X6_156 (As := [.int a1, .int a2, .int a3, .int a4, .int a5, .int a7]) rfl hl.1 rfl ⟨⟨Nat.le_of_ble_eq_true rfl, Nat.le_of_ble_eq_true rfl⟩, Nat.le_of_ble_eq_true rfl, Nat.le_of_ble_eq_true rfl, Nat.le_of_ble_eq_true rfl⟩ dX6_feed_29 (fun H locs hw => ?_)
      refine lv_if_eq (tgt := 39) hx hb dX6_feed_32 (by decide) (fun c14 => ?_) (fun c14 => ?_)
      · have hf := cl_yes c14 hf
        refine lv_iconst (v := 0) hx hb dX6_feed_39 (by decide) ?_
        exact k_X6_feed_40 C ih M t0 a1 a2 a3 a4 a5 a7 0 a6 _ _ hf _ _ _ ht0 hw (lv_sub hl [0, 1, 2, 3, 4, 5, 7] rfl)
      · have hf := cl_no c14 hf
        refine lv_iconst (v := 1) hx hb dX6_feed_35 (by decide) ?_
        refine lv_goto (tgt := 40) hx hb dX6_feed_36 (by decide) ?_
        exact k_X6_feed_40 C ih M t0 a1 a2 a3 a4 a5 a7 1 a6 _ _ hf _ _ _ ht0 hw (lv_sub hl [0, 1, 2, 3, 4, 5, 7] rfl)
def f_X6_feed (M : cl_M) (t0 : Nat) (a1 : Int32) (a2 : Int32) (a3 : Int32) (a4 : Int32) (a5 : Int32) : Option (Int32 × cl_M) := cl_let (cl_ms M t0 4 0) (fun M1 => f_X6_feed_11 cl_F M1 t0 a1 a2 a3 a4 a5 0 0)
set_option maxHeartbeats 4000000 in
set_option maxRecDepth 100000 in
theorem k_X6_feed {p : Program} {l : Launch} {e : Env} {s : State} {m : MethodId} {args : Array Value} {below : List Frame} {meth : Method} {c : Code} {dd : cl_D} {b : Nat} (C : cl_C p l s m args meth c cX6_feed RX6 9 (some .int) dd b) : ∀ (M : cl_M) (t0 : Nat) (a1 : Int32) (a2 : Int32) (a3 : Int32) (a4 : Int32) (a5 : Int32) (r : Int32) (M' : cl_M), f_X6_feed M t0 a1 a2 a3 a4 a5 = some (r, M') → ∀ (H : Heap) (locs : List Loc) (ls : Array Slot), cl_sh dd t0 = 6 → cl_H dd b M s H locs → lv_has ls 9 [(0, .ref (b + t0)), (1, .int a1), (2, .int a2), (3, .int a3), (4, .int a4), (5, .int a5)] → W p l e { frames := 1, cells := 0, slots := 0, locals := 26 } s m args below meth c H locs 0 0 (cl_Zi below args s dd b r M') (F0 m 0 ls []) := by
  have hx := C.1
  have hb := C.2.1
  have hlt := C.2.2.2.2.2.2.2.2.2.2
  have hRr := C.2.2.2.2.2.2.2.2.2.1
  intro M t0 a1 a2 a3 a4 a5 r M' hf H locs ls ht0 hw hl
  unfold f_X6_feed at hf
  refine lv_aload_n hx hb dX6_feed_0 rfl (lv_at hl 0 rfl) ?_
  refine lv_iconst (v := 0) hx hb dX6_feed_1 (by decide) ?_
  obtain ⟨M1, eM1, hf⟩ := cl_let_e hf
  refine fp_X6_60 C hw ht0 eM1 dX6_feed_2 (fun H locs hw => ?_)
  refine lv_iconst (v := 0) hx hb dX6_feed_5 (by decide) ?_
  refine lv_istore (lv' := [(6, .int 0), (0, .ref (b + t0)), (1, .int a1), (2, .int a2), (3, .int a3), (4, .int a4), (5, .int a5)]) hx hb dX6_feed_6 hl (by decide) rfl (fun ls hl => ?_)
  refine lv_iconst (v := 0) hx hb dX6_feed_8 (by decide) ?_
  refine lv_istore (lv' := [(7, .int 0), (6, .int 0), (0, .ref (b + t0)), (1, .int a1), (2, .int a2), (3, .int a3), (4, .int a4), (5, .int a5)]) hx hb dX6_feed_9 hl (by decide) rfl (fun ls hl => ?_)
  exact k_X6_feed_11 C cl_F M1 t0 a1 a2 a3 a4 a5 0 0 _ _ hf _ _ _ ht0 hw (lv_sub hl [2, 3, 4, 5, 6, 7, 1, 0] rfl)
set_option maxRecDepth 100000 in
theorem c_X6_feed {l : Launch} {dd : cl_D} {b : Nat} (hlt : l.stackTraces = false) {M : cl_M} {t0 : Nat} {a1 : Int32} {a2 : Int32} {a3 : Int32} {a4 : Int32} {a5 : Int32}  {r : Int32} {M' : cl_M} (ht0 : cl_sh dd t0 = 6) (h : f_X6_feed M t0 a1 a2 a3 a4 a5 = some (r, M')) : cl_Mi l dd b yX6_feed cX6_feed 9 (some .int) 1 26 [.ref (b + t0), .int a1, .int a2, .int a3, .int a4, .int a5] M r M' :=
  cl_of hlt (by decide) (Nat.le_of_ble_eq_true rfl) (fun p e s m below meth c ls C hw hl => k_X6_feed C M t0 a1 a2 a3 a4 a5 r M' h _ _ _ ht0 hw (lv_sub hl [0, 1, 2, 3, 4, 5] rfl))
theorem cy_X6_feed : cl_cy yX6_feed cX6_feed 9 (some .int) 5 := ⟨in_ClothesLineModel, cd_X6_feed, by decide +kernel, by decide +kernel, by decide +kernel⟩
theorem vy_X6_feed : cl_vy yX6_feed := ⟨im_X6_feed, se_X6_feed⟩
def f_X6_isSmall (M : cl_M) (a0 : Int32) : Option (Int32) := (f_X6_inRange M a0 97 122).bind (fun v1 => if cl_bz v1 = true then some v1 else none)
set_option maxHeartbeats 4000000 in
set_option maxRecDepth 100000 in
theorem k_X6_isSmall {p : Program} {l : Launch} {e : Env} {s : State} {m : MethodId} {args : Array Value} {below : List Frame} {meth : Method} {c : Code} {dd : cl_D} {b : Nat} (C : cl_C p l s m args meth c cX6_isSmall RX6 1 (some .boolean) dd b) : ∀ (M : cl_M) (a0 : Int32) (r : Int32), f_X6_isSmall M a0 = some r → ∀ (H : Heap) (locs : List Loc) (ls : Array Slot), cl_H dd b M s H locs → lv_has ls 1 [(0, .int a0)] → W p l e { frames := 1, cells := 0, slots := 0, locals := 22 } s m args below meth c H locs 0 0 (cl_Zi below args s dd b r M) (F0 m 0 ls []) := by
  have hx := C.1
  have hb := C.2.1
  have hlt := C.2.2.2.2.2.2.2.2.2.2
  have hRr := C.2.2.2.2.2.2.2.2.2.1
  intro M a0 r hf H locs ls hw hl
  unfold f_X6_isSmall at hf
  refine lv_iload_n hx hb dX6_isSmall_0 rfl (lv_at hl 0 rfl) ?_
  refine lv_bipush (v := 97) hx hb dX6_isSmall_1 (by decide) ?_
  refine lv_bipush (v := 122) hx hb dX6_isSmall_3 (by decide) ?_
  obtain ⟨v1, e2, hf⟩ := cl_bind_e hf
  refine cr_Si C hw (c_X6_inRange hlt e2) cy_X6_inRange st_X6_inRange ml_X6_63 (As := [.int a0, .int 97, .int 122]) rfl hl.1 rfl ⟨⟨Nat.le_of_ble_eq_true rfl, Nat.le_of_ble_eq_true rfl⟩, Nat.le_of_ble_eq_true rfl, Nat.le_of_ble_eq_true rfl, Nat.le_of_ble_eq_true rfl⟩ dX6_isSmall_5 (fun H locs hw => ?_)
  obtain ⟨q3, hf⟩ := cl_grd hf
  obtain rfl := Option.some.inj hf
  exact cr_retz C hw q3 dX6_isSmall_8
set_option maxRecDepth 100000 in
theorem c_X6_isSmall {l : Launch} {dd : cl_D} {b : Nat} (hlt : l.stackTraces = false) {M : cl_M} {a0 : Int32}  {r : Int32} (h : f_X6_isSmall M a0 = some r) : cl_Mi l dd b yX6_isSmall cX6_isSmall 1 (some .boolean) 1 22 [.int a0] M r M :=
  cl_of hlt (by decide) (Nat.le_of_ble_eq_true rfl) (fun p e s m below meth c ls C hw hl => k_X6_isSmall C M a0 r h _ _ _ hw (lv_sub hl [0] rfl))
theorem cy_X6_isSmall : cl_cy yX6_isSmall cX6_isSmall 1 (some .boolean) 1 := ⟨in_ClothesLineModel, cd_X6_isSmall, by decide +kernel, by decide +kernel, by decide +kernel⟩
def f_X6_isDigit (M : cl_M) (a0 : Int32) : Option (Int32) := (f_X6_inRange M a0 48 57).bind (fun v1 => if cl_bz v1 = true then some v1 else none)
set_option maxHeartbeats 4000000 in
set_option maxRecDepth 100000 in
theorem k_X6_isDigit {p : Program} {l : Launch} {e : Env} {s : State} {m : MethodId} {args : Array Value} {below : List Frame} {meth : Method} {c : Code} {dd : cl_D} {b : Nat} (C : cl_C p l s m args meth c cX6_isDigit RX6 1 (some .boolean) dd b) : ∀ (M : cl_M) (a0 : Int32) (r : Int32), f_X6_isDigit M a0 = some r → ∀ (H : Heap) (locs : List Loc) (ls : Array Slot), cl_H dd b M s H locs → lv_has ls 1 [(0, .int a0)] → W p l e { frames := 1, cells := 0, slots := 0, locals := 22 } s m args below meth c H locs 0 0 (cl_Zi below args s dd b r M) (F0 m 0 ls []) := by
  have hx := C.1
  have hb := C.2.1
  have hlt := C.2.2.2.2.2.2.2.2.2.2
  have hRr := C.2.2.2.2.2.2.2.2.2.1
  intro M a0 r hf H locs ls hw hl
  unfold f_X6_isDigit at hf
  refine lv_iload_n hx hb dX6_isDigit_0 rfl (lv_at hl 0 rfl) ?_
  refine lv_bipush (v := 48) hx hb dX6_isDigit_1 (by decide) ?_
  refine lv_bipush (v := 57) hx hb dX6_isDigit_3 (by decide) ?_
  obtain ⟨v1, e2, hf⟩ := cl_bind_e hf
  refine cr_Si C hw (c_X6_inRange hlt e2) cy_X6_inRange st_X6_inRange ml_X6_63 (As := [.int a0, .int 48, .int 57]) rfl hl.1 rfl ⟨⟨Nat.le_of_ble_eq_true rfl, Nat.le_of_ble_eq_true rfl⟩, Nat.le_of_ble_eq_true rfl, Nat.le_of_ble_eq_true rfl, Nat.le_of_ble_eq_true rfl⟩ dX6_isDigit_5 (fun H locs hw => ?_)
  obtain ⟨q3, hf⟩ := cl_grd hf
  obtain rfl := Option.some.inj hf
  exact cr_retz C hw q3 dX6_isDigit_8
set_option maxRecDepth 100000 in
theorem c_X6_isDigit {l : Launch} {dd : cl_D} {b : Nat} (hlt : l.stackTraces = false) {M : cl_M} {a0 : Int32}  {r : Int32} (h : f_X6_isDigit M a0 = some r) : cl_Mi l dd b yX6_isDigit cX6_isDigit 1 (some .boolean) 1 22 [.int a0] M r M :=
  cl_of hlt (by decide) (Nat.le_of_ble_eq_true rfl) (fun p e s m below meth c ls C hw hl => k_X6_isDigit C M a0 r h _ _ _ hw (lv_sub hl [0] rfl))
theorem cy_X6_isDigit : cl_cy yX6_isDigit cX6_isDigit 1 (some .boolean) 1 := ⟨in_ClothesLineModel, cd_X6_isDigit, by decide +kernel, by decide +kernel, by decide +kernel⟩
def f_X6_next_258 (M : cl_M) (z0 : Int32) (w1 : Nat) : Option (cl_M) := cl_let (cl_ms M w1 15 z0) (fun M14 => some M14)
set_option maxHeartbeats 4000000 in
set_option maxRecDepth 100000 in
theorem k_X6_next_258 {p : Program} {l : Launch} {e : Env} {s : State} {m : MethodId} {args : Array Value} {below : List Frame} {meth : Method} {c : Code} {dd : cl_D} {b : Nat} (C : cl_C p l s m args meth c cX6_next RX6 2 none dd b) : ∀ (M : cl_M) (z0 : Int32) (w1 : Nat) (M' : cl_M), f_X6_next_258 M z0 w1 = some M' → ∀ (H : Heap) (locs : List Loc) (ls : Array Slot), cl_sh dd w1 = 6 → cl_H dd b M s H locs → lv_has ls 2 [] → W p l e { frames := 2, cells := 0, slots := 0, locals := 42 } s m args below meth c H locs 0 0 (cl_Zv below args s dd b M') (F0 m 258 ls [.int z0, .ref (b + w1)]) := by
  have hx := C.1
  have hb := C.2.1
  have hlt := C.2.2.2.2.2.2.2.2.2.2
  have hRr := C.2.2.2.2.2.2.2.2.2.1
  intro M z0 w1 M' hf H locs ls hw1 hw hl
  unfold f_X6_next_258 at hf
  obtain ⟨M14, eM14, hf⟩ := cl_let_e hf
  refine fp_X6_166 C hw hw1 eM14 dX6_next_258 (fun H locs hw => ?_)
  obtain rfl := Option.some.inj hf
  exact cr_retv C hw dX6_next_261
def f_X6_next_230 (r168 : cl_M → Nat → Option (cl_M)) (M : cl_M) (t0 : Nat) (z0 : Int32) (w1 : Nat) : Option (cl_M) := cl_let (cl_ms M w1 17 z0) (fun M24 => cl_let (cl_ms M24 t0 14 ((M24 t0 14) + 1)) (fun M25 => r168 M25 t0))
set_option maxHeartbeats 4000000 in
set_option maxRecDepth 100000 in
theorem k_X6_next_230 {p : Program} {l : Launch} {e : Env} {s : State} {m : MethodId} {args : Array Value} {below : List Frame} {meth : Method} {c : Code} {dd : cl_D} {b : Nat} (C : cl_C p l s m args meth c cX6_next RX6 2 none dd b) {r168 : cl_M → Nat → Option (cl_M)} (hr168 : ∀ (M : cl_M) (t0 : Nat) (M' : cl_M), r168 M t0 = some M' → ∀ (H : Heap) (locs : List Loc) (ls : Array Slot), cl_sh dd t0 = 6 → cl_H dd b M s H locs → lv_has ls 2 [(0, .ref (b + t0))] → W p l e { frames := 2, cells := 0, slots := 0, locals := 42 } s m args below meth c H locs 0 0 (cl_Zv below args s dd b M') (F0 m 168 ls [])) : ∀ (M : cl_M) (t0 : Nat) (z0 : Int32) (w1 : Nat) (M' : cl_M), f_X6_next_230 r168 M t0 z0 w1 = some M' → ∀ (H : Heap) (locs : List Loc) (ls : Array Slot), cl_sh dd t0 = 6 → cl_sh dd w1 = 6 → cl_H dd b M s H locs → lv_has ls 2 [(0, .ref (b + t0))] → W p l e { frames := 2, cells := 0, slots := 0, locals := 42 } s m args below meth c H locs 0 0 (cl_Zv below args s dd b M') (F0 m 230 ls [.int z0, .ref (b + w1)]) := by
  have hx := C.1
  have hb := C.2.1
  have hlt := C.2.2.2.2.2.2.2.2.2.2
  have hRr := C.2.2.2.2.2.2.2.2.2.1
  intro M t0 z0 w1 M' hf H locs ls ht0 hw1 hw hl
  unfold f_X6_next_230 at hf
  obtain ⟨M24, eM24, hf⟩ := cl_let_e hf
  refine fp_X6_175 C hw hw1 eM24 dX6_next_230 (fun H locs hw => ?_)
  refine lv_aload_n hx hb dX6_next_233 rfl (lv_at hl 0 rfl) ?_
  refine lv_dup hx hb dX6_next_234 rfl ?_
  refine fg_X6_160 C hw ht0 dX6_next_235 ?_
  refine lv_iconst (v := 1) hx hb dX6_next_238 (by decide) ?_
  refine lv_iadd hx hb dX6_next_239 ?_
  obtain ⟨M25, eM25, hf⟩ := cl_let_e hf
  refine fp_X6_160 C hw ht0 eM25 dX6_next_240 (fun H locs hw => ?_)
  refine lv_goto (tgt := 168) hx hb dX6_next_243 (by decide) ?_
  exact hr168 M25 t0 _ hf _ _ _ ht0 hw (lv_sub hl [0] rfl)
def f_X6_next_168 : Nat → cl_M → Nat → Option (cl_M)
  | 0, _, _ => none
  | k + 1, M, t0 => if (M t0 1) ≤ (M t0 14) then some M else if cl_inb (M t0 14) 700 = true then (f_X6_isDigit M (M (t0 + 1) ((M t0 14).toNatClampNeg))).bind (fun v19 => if v19 = 0 then some M else if (M t0 17) ≤ 9999 then if cl_inb (M t0 14) 700 = true then f_X6_next_230 (f_X6_next_168 k) M t0 (((10 * (M t0 17)) + (M (t0 + 1) ((M t0 14).toNatClampNeg))) - 48) t0 else none else f_X6_next_230 (f_X6_next_168 k) M t0 99999 t0) else none
set_option maxHeartbeats 4000000 in
set_option maxRecDepth 100000 in
theorem k_X6_next_168 {p : Program} {l : Launch} {e : Env} {s : State} {m : MethodId} {args : Array Value} {below : List Frame} {meth : Method} {c : Code} {dd : cl_D} {b : Nat} (C : cl_C p l s m args meth c cX6_next RX6 2 none dd b) : ∀ (k : Nat), ∀ (M : cl_M) (t0 : Nat) (M' : cl_M), f_X6_next_168 k M t0 = some M' → ∀ (H : Heap) (locs : List Loc) (ls : Array Slot), cl_sh dd t0 = 6 → cl_H dd b M s H locs → lv_has ls 2 [(0, .ref (b + t0))] → W p l e { frames := 2, cells := 0, slots := 0, locals := 42 } s m args below meth c H locs 0 0 (cl_Zv below args s dd b M') (F0 m 168 ls []) := by
  have hx := C.1
  have hb := C.2.1
  have hlt := C.2.2.2.2.2.2.2.2.2.2
  have hRr := C.2.2.2.2.2.2.2.2.2.1
  intro k
  induction k with
  | zero =>
    intro M t0 M' hf H locs ls ht0 hw hl
    rw [f_X6_next_168] at hf
    cases hf
  | succ k ih =>
    intro M t0 M' hf H locs ls ht0 hw hl
    rw [f_X6_next_168] at hf
    refine lv_aload_n hx hb dX6_next_168 rfl (lv_at hl 0 rfl) ?_
    refine fg_X6_160 C hw ht0 dX6_next_169 ?_
    refine lv_aload_n hx hb dX6_next_172 rfl (lv_at hl 0 rfl) ?_
    refine fg_X6_54 C hw ht0 dX6_next_173 ?_
    refine lv_icmp_ge (tgt := 261) hx hb dX6_next_176 (by decide) (fun c17 => ?_) (fun c17 => ?_)
    · have hf := cl_yes c17 hf
      obtain rfl := Option.some.inj hf
      exact cr_retv C hw dX6_next_261
    · have hf := cl_no c17 hf
      refine lv_aload_n hx hb dX6_next_179 rfl (lv_at hl 0 rfl) ?_
      refine fg_X6_7 C hw ht0 dX6_next_180 ?_
      refine lv_aload_n hx hb dX6_next_183 rfl (lv_at hl 0 rfl) ?_
      refine fg_X6_160 C hw ht0 dX6_next_184 ?_
      obtain ⟨q18, hf⟩ := cl_grd hf
      refine cr_iald C hw (sh_6_0 ht0).1 (sh_6_0 ht0).2 q18 (k := (M t0 14).toNatClampNeg) rfl dX6_next_187 ?_
      obtain ⟨v19, e20, hf⟩ := cl_bind_e hf
      refine cr_Si C hw (c_X6_isDigit hlt e20) cy_X6_isDigit st_X6_isDigit ml_X6_172 (As := [.int (M (t0 + 1) ((M t0 14).toNatClampNeg))]) rfl hl.1 rfl ⟨⟨Nat.le_of_ble_eq_true rfl, Nat.le_of_ble_eq_true rfl⟩, Nat.le_of_ble_eq_true rfl, Nat.le_of_ble_eq_true rfl, Nat.le_of_ble_eq_true rfl⟩ dX6_next_188 (fun H locs hw => ?_)
      refine lv_if_eq (tgt := 261) hx hb dX6_next_191 (by decide) (fun c21 => ?_) (fun c21 => ?_)
      · have hf := cl_yes c21 hf
        obtain rfl := Option.some.inj hf
        exact cr_retv C hw dX6_next_261
      · have hf := cl_no c21 hf
        refine lv_aload_n hx hb dX6_next_194 rfl (lv_at hl 0 rfl) ?_
        refine lv_aload_n hx hb dX6_next_195 rfl (lv_at hl 0 rfl) ?_
        refine fg_X6_175 C hw ht0 dX6_next_196 ?_
        refine lv_sipush (v := 9999) hx hb dX6_next_199 (by decide) ?_
        refine lv_icmp_le (tgt := 210) hx hb dX6_next_202 (by decide) (fun c22 => ?_) (fun c22 => ?_)
        · have hf := cl_yes c22 hf
          refine lv_bipush (v := 10) hx hb dX6_next_210 (by decide) ?_
          refine lv_aload_n hx hb dX6_next_212 rfl (lv_at hl 0 rfl) ?_
          refine fg_X6_175 C hw ht0 dX6_next_213 ?_
          refine lv_imul hx hb dX6_next_216 ?_
          refine lv_aload_n hx hb dX6_next_217 rfl (lv_at hl 0 rfl) ?_
          refine fg_X6_7 C hw ht0 dX6_next_218 ?_
          refine lv_aload_n hx hb dX6_next_221 rfl (lv_at hl 0 rfl) ?_
          refine fg_X6_160 C hw ht0 dX6_next_222 ?_
          obtain ⟨q23, hf⟩ := cl_grd hf
          refine cr_iald C hw (sh_6_0 ht0).1 (sh_6_0 ht0).2 q23 (k := (M t0 14).toNatClampNeg) rfl dX6_next_225 ?_
          refine lv_iadd hx hb dX6_next_226 ?_
          refine lv_bipush (v := 48) hx hb dX6_next_227 (by decide) ?_
          refine lv_isub hx hb dX6_next_229 ?_
          exact k_X6_next_230 C ih M t0 (((10 * (M t0 17)) + (M (t0 + 1) ((M t0 14).toNatClampNeg))) - 48) t0 _ hf _ _ _ ht0 ht0 hw (lv_sub hl [0] rfl)
        · have hf := cl_no c22 hf
          refine lv_ldc (v := 99999) hx hb C.2.2.2.1 (C.2.2.2.2.1 _ kl_X6_178) dX6_next_205 ?_
          refine lv_goto (tgt := 230) hx hb dX6_next_207 (by decide) ?_
          exact k_X6_next_230 C ih M t0 99999 t0 _ hf _ _ _ ht0 ht0 hw (lv_sub hl [0] rfl)
def f_X6_next_109 : Nat → cl_M → Nat → Option (cl_M)
  | 0, _, _ => none
  | k + 1, M, t0 => if (M t0 1) ≤ (M t0 14) then some M else if cl_inb (M t0 14) 700 = true then (f_X6_isSmall M (M (t0 + 1) ((M t0 14).toNatClampNeg))).bind (fun v29 => if v29 = 0 then some M else cl_let (cl_ms M t0 14 ((M t0 14) + 1)) (fun M32 => f_X6_next_109 k M32 t0)) else none
set_option maxHeartbeats 4000000 in
set_option maxRecDepth 100000 in
theorem k_X6_next_109 {p : Program} {l : Launch} {e : Env} {s : State} {m : MethodId} {args : Array Value} {below : List Frame} {meth : Method} {c : Code} {dd : cl_D} {b : Nat} (C : cl_C p l s m args meth c cX6_next RX6 2 none dd b) : ∀ (k : Nat), ∀ (M : cl_M) (t0 : Nat) (M' : cl_M), f_X6_next_109 k M t0 = some M' → ∀ (H : Heap) (locs : List Loc) (ls : Array Slot), cl_sh dd t0 = 6 → cl_H dd b M s H locs → lv_has ls 2 [(0, .ref (b + t0))] → W p l e { frames := 2, cells := 0, slots := 0, locals := 42 } s m args below meth c H locs 0 0 (cl_Zv below args s dd b M') (F0 m 109 ls []) := by
  have hx := C.1
  have hb := C.2.1
  have hlt := C.2.2.2.2.2.2.2.2.2.2
  have hRr := C.2.2.2.2.2.2.2.2.2.1
  intro k
  induction k with
  | zero =>
    intro M t0 M' hf H locs ls ht0 hw hl
    rw [f_X6_next_109] at hf
    cases hf
  | succ k ih =>
    intro M t0 M' hf H locs ls ht0 hw hl
    rw [f_X6_next_109] at hf
    refine lv_aload_n hx hb dX6_next_109 rfl (lv_at hl 0 rfl) ?_
    refine fg_X6_160 C hw ht0 dX6_next_110 ?_
    refine lv_aload_n hx hb dX6_next_113 rfl (lv_at hl 0 rfl) ?_
    refine fg_X6_54 C hw ht0 dX6_next_114 ?_
    refine lv_icmp_ge (tgt := 261) hx hb dX6_next_117 (by decide) (fun c27 => ?_) (fun c27 => ?_)
    · have hf := cl_yes c27 hf
      obtain rfl := Option.some.inj hf
      exact cr_retv C hw dX6_next_261
    · have hf := cl_no c27 hf
      refine lv_aload_n hx hb dX6_next_120 rfl (lv_at hl 0 rfl) ?_
      refine fg_X6_7 C hw ht0 dX6_next_121 ?_
      refine lv_aload_n hx hb dX6_next_124 rfl (lv_at hl 0 rfl) ?_
      refine fg_X6_160 C hw ht0 dX6_next_125 ?_
      obtain ⟨q28, hf⟩ := cl_grd hf
      refine cr_iald C hw (sh_6_0 ht0).1 (sh_6_0 ht0).2 q28 (k := (M t0 14).toNatClampNeg) rfl dX6_next_128 ?_
      obtain ⟨v29, e30, hf⟩ := cl_bind_e hf
      refine cr_Si C hw (c_X6_isSmall hlt e30) cy_X6_isSmall st_X6_isSmall ml_X6_169 (As := [.int (M (t0 + 1) ((M t0 14).toNatClampNeg))]) rfl hl.1 rfl ⟨⟨Nat.le_of_ble_eq_true rfl, Nat.le_of_ble_eq_true rfl⟩, Nat.le_of_ble_eq_true rfl, Nat.le_of_ble_eq_true rfl, Nat.le_of_ble_eq_true rfl⟩ dX6_next_129 (fun H locs hw => ?_)
      refine lv_if_eq (tgt := 261) hx hb dX6_next_132 (by decide) (fun c31 => ?_) (fun c31 => ?_)
      · have hf := cl_yes c31 hf
        obtain rfl := Option.some.inj hf
        exact cr_retv C hw dX6_next_261
      · have hf := cl_no c31 hf
        refine lv_aload_n hx hb dX6_next_135 rfl (lv_at hl 0 rfl) ?_
        refine lv_dup hx hb dX6_next_136 rfl ?_
        refine fg_X6_160 C hw ht0 dX6_next_137 ?_
        refine lv_iconst (v := 1) hx hb dX6_next_140 (by decide) ?_
        refine lv_iadd hx hb dX6_next_141 ?_
        obtain ⟨M32, eM32, hf⟩ := cl_let_e hf
        refine fp_X6_160 C hw ht0 eM32 dX6_next_142 (fun H locs hw => ?_)
        refine lv_goto (tgt := 109) hx hb dX6_next_145 (by decide) ?_
        exact ih M32 t0 _ hf _ _ _ ht0 hw (lv_sub hl [0] rfl)
def f_X6_next_52 (M : cl_M) (t0 : Nat) : Option (cl_M) := cl_let (cl_ms M t0 16 (M t0 14)) (fun M2 => if (M2 t0 14) = (M2 t0 1) then cl_let (cl_ms M2 t0 15 4) (fun M33 => some M33) else if cl_inb (M2 t0 14) 700 = true then cl_let (M2 (t0 + 1) ((M2 t0 14).toNatClampNeg)) (fun v5 => cl_let (cl_ms M2 t0 14 ((M2 t0 14) + 1)) (fun M6 => (f_X6_isSmall M6 v5).bind (fun v7 => if v7 = 0 then (f_X6_isDigit M6 v5).bind (fun v10 => if v10 = 0 then if v5 = 59 then f_X6_next_258 M6 2 t0 else f_X6_next_258 M6 3 t0 else cl_let (cl_ms M6 t0 15 1) (fun M15 => cl_let (cl_ms M15 t0 17 (v5 - 48)) (fun M16 => f_X6_next_168 cl_F M16 t0))) else cl_let (cl_ms M6 t0 15 0) (fun M26 => f_X6_next_109 cl_F M26 t0)))) else none)
set_option maxHeartbeats 4000000 in
set_option maxRecDepth 100000 in
theorem k_X6_next_52 {p : Program} {l : Launch} {e : Env} {s : State} {m : MethodId} {args : Array Value} {below : List Frame} {meth : Method} {c : Code} {dd : cl_D} {b : Nat} (C : cl_C p l s m args meth c cX6_next RX6 2 none dd b) : ∀ (M : cl_M) (t0 : Nat) (M' : cl_M), f_X6_next_52 M t0 = some M' → ∀ (H : Heap) (locs : List Loc) (ls : Array Slot), cl_sh dd t0 = 6 → cl_H dd b M s H locs → lv_has ls 2 [(0, .ref (b + t0))] → W p l e { frames := 2, cells := 0, slots := 0, locals := 42 } s m args below meth c H locs 0 0 (cl_Zv below args s dd b M') (F0 m 52 ls []) := by
  have hx := C.1
  have hb := C.2.1
  have hlt := C.2.2.2.2.2.2.2.2.2.2
  have hRr := C.2.2.2.2.2.2.2.2.2.1
  intro M t0 M' hf H locs ls ht0 hw hl
  unfold f_X6_next_52 at hf
  refine lv_aload_n hx hb dX6_next_52 rfl (lv_at hl 0 rfl) ?_
  refine lv_aload_n hx hb dX6_next_53 rfl (lv_at hl 0 rfl) ?_
  refine fg_X6_160 C hw ht0 dX6_next_54 ?_
  obtain ⟨M2, eM2, hf⟩ := cl_let_e hf
  refine fp_X6_163 C hw ht0 eM2 dX6_next_57 (fun H locs hw => ?_)
  refine lv_aload_n hx hb dX6_next_60 rfl (lv_at hl 0 rfl) ?_
  refine fg_X6_160 C hw ht0 dX6_next_61 ?_
  refine lv_aload_n hx hb dX6_next_64 rfl (lv_at hl 0 rfl) ?_
  refine fg_X6_54 C hw ht0 dX6_next_65 ?_
  refine lv_icmp_ne (tgt := 77) hx hb dX6_next_68 (by decide) (fun c3 => ?_) (fun c3 => ?_)
  · have hf := cl_no c3 hf
    refine lv_aload_n hx hb dX6_next_77 rfl (lv_at hl 0 rfl) ?_
    refine fg_X6_7 C hw ht0 dX6_next_78 ?_
    refine lv_aload_n hx hb dX6_next_81 rfl (lv_at hl 0 rfl) ?_
    refine fg_X6_160 C hw ht0 dX6_next_82 ?_
    obtain ⟨q4, hf⟩ := cl_grd hf
    refine cr_iald C hw (sh_6_0 ht0).1 (sh_6_0 ht0).2 q4 (k := (M2 t0 14).toNatClampNeg) rfl dX6_next_85 ?_
    obtain ⟨v5, ev5, hf⟩ := cl_let_e hf
    refine cr_top ev5 ?_
    refine lv_istore_n (lv' := [(1, .int v5), (0, .ref (b + t0))]) hx hb dX6_next_86 rfl hl (by decide) rfl (fun ls hl => ?_)
    refine lv_aload_n hx hb dX6_next_87 rfl (lv_at hl 1 rfl) ?_
    refine lv_dup hx hb dX6_next_88 rfl ?_
    refine fg_X6_160 C hw ht0 dX6_next_89 ?_
    refine lv_iconst (v := 1) hx hb dX6_next_92 (by decide) ?_
    refine lv_iadd hx hb dX6_next_93 ?_
    obtain ⟨M6, eM6, hf⟩ := cl_let_e hf
    refine fp_X6_160 C hw ht0 eM6 dX6_next_94 (fun H locs hw => ?_)
    refine lv_iload_n hx hb dX6_next_97 rfl (lv_at hl 0 rfl) ?_
    obtain ⟨v7, e8, hf⟩ := cl_bind_e hf
    refine cr_Si C hw (c_X6_isSmall hlt e8) cy_X6_isSmall st_X6_isSmall ml_X6_169 (As := [.int v5]) rfl hl.1 rfl ⟨⟨Nat.le_of_ble_eq_true rfl, Nat.le_of_ble_eq_true rfl⟩, Nat.le_of_ble_eq_true rfl, Nat.le_of_ble_eq_true rfl, Nat.le_of_ble_eq_true rfl⟩ dX6_next_98 (fun H locs hw => ?_)
    refine lv_if_eq (tgt := 148) hx hb dX6_next_101 (by decide) (fun c9 => ?_) (fun c9 => ?_)
    · have hf := cl_yes c9 hf
      refine lv_iload_n hx hb dX6_next_148 rfl (lv_at hl 0 rfl) ?_
      obtain ⟨v10, e11, hf⟩ := cl_bind_e hf
      refine cr_Si C hw (c_X6_isDigit hlt e11) cy_X6_isDigit st_X6_isDigit ml_X6_172 (As := [.int v5]) rfl hl.1 rfl ⟨⟨Nat.le_of_ble_eq_true rfl, Nat.le_of_ble_eq_true rfl⟩, Nat.le_of_ble_eq_true rfl, Nat.le_of_ble_eq_true rfl, Nat.le_of_ble_eq_true rfl⟩ dX6_next_149 (fun H locs hw => ?_)
      refine lv_if_eq (tgt := 246) hx hb dX6_next_152 (by decide) (fun c12 => ?_) (fun c12 => ?_)
      · have hf := cl_yes c12 hf
        refine lv_aload_n hx hb dX6_next_246 rfl (lv_at hl 1 rfl) ?_
        refine lv_iload_n hx hb dX6_next_247 rfl (lv_at hl 0 rfl) ?_
        refine lv_bipush (v := 59) hx hb dX6_next_248 (by decide) ?_
        refine lv_icmp_ne (tgt := 257) hx hb dX6_next_250 (by decide) (fun c13 => ?_) (fun c13 => ?_)
        · have hf := cl_no c13 hf
          refine lv_iconst (v := 3) hx hb dX6_next_257 (by decide) ?_
          exact k_X6_next_258 C M6 3 t0 _ hf _ _ _ ht0 hw (lv_sub hl [] rfl)
        · have hf := cl_yes c13 hf
          refine lv_iconst (v := 2) hx hb dX6_next_253 (by decide) ?_
          refine lv_goto (tgt := 258) hx hb dX6_next_254 (by decide) ?_
          exact k_X6_next_258 C M6 2 t0 _ hf _ _ _ ht0 hw (lv_sub hl [] rfl)
      · have hf := cl_no c12 hf
        refine lv_aload_n hx hb dX6_next_155 rfl (lv_at hl 1 rfl) ?_
        refine lv_iconst (v := 1) hx hb dX6_next_156 (by decide) ?_
        obtain ⟨M15, eM15, hf⟩ := cl_let_e hf
        refine fp_X6_166 C hw ht0 eM15 dX6_next_157 (fun H locs hw => ?_)
        refine lv_aload_n hx hb dX6_next_160 rfl (lv_at hl 1 rfl) ?_
        refine lv_iload_n hx hb dX6_next_161 rfl (lv_at hl 0 rfl) ?_
        refine lv_bipush (v := 48) hx hb dX6_next_162 (by decide) ?_
        refine lv_isub hx hb dX6_next_164 ?_
        obtain ⟨M16, eM16, hf⟩ := cl_let_e hf
        refine fp_X6_175 C hw ht0 eM16 dX6_next_165 (fun H locs hw => ?_)
        exact k_X6_next_168 C cl_F M16 t0 _ hf _ _ _ ht0 hw (lv_sub hl [1] rfl)
    · have hf := cl_no c9 hf
      refine lv_aload_n hx hb dX6_next_104 rfl (lv_at hl 1 rfl) ?_
      refine lv_iconst (v := 0) hx hb dX6_next_105 (by decide) ?_
      obtain ⟨M26, eM26, hf⟩ := cl_let_e hf
      refine fp_X6_166 C hw ht0 eM26 dX6_next_106 (fun H locs hw => ?_)
      exact k_X6_next_109 C cl_F M26 t0 _ hf _ _ _ ht0 hw (lv_sub hl [1] rfl)
  · have hf := cl_yes c3 hf
    refine lv_aload_n hx hb dX6_next_71 rfl (lv_at hl 0 rfl) ?_
    refine lv_iconst (v := 4) hx hb dX6_next_72 (by decide) ?_
    obtain ⟨M33, eM33, hf⟩ := cl_let_e hf
    refine fp_X6_166 C hw ht0 eM33 dX6_next_73 (fun H locs hw => ?_)
    obtain rfl := Option.some.inj hf
    exact cr_retv C hw dX6_next_76
def f_X6_next_39 (r0 : cl_M → Nat → Option (cl_M)) (M : cl_M) (t0 : Nat) : Option (cl_M) := cl_let (cl_ms M t0 14 ((M t0 14) + 1)) (fun M36 => r0 M36 t0)
set_option maxHeartbeats 4000000 in
set_option maxRecDepth 100000 in
theorem k_X6_next_39 {p : Program} {l : Launch} {e : Env} {s : State} {m : MethodId} {args : Array Value} {below : List Frame} {meth : Method} {c : Code} {dd : cl_D} {b : Nat} (C : cl_C p l s m args meth c cX6_next RX6 2 none dd b) {r0 : cl_M → Nat → Option (cl_M)} (hr0 : ∀ (M : cl_M) (t0 : Nat) (M' : cl_M), r0 M t0 = some M' → ∀ (H : Heap) (locs : List Loc) (ls : Array Slot), cl_sh dd t0 = 6 → cl_H dd b M s H locs → lv_has ls 2 [(0, .ref (b + t0))] → W p l e { frames := 2, cells := 0, slots := 0, locals := 42 } s m args below meth c H locs 0 0 (cl_Zv below args s dd b M') (F0 m 0 ls [])) : ∀ (M : cl_M) (t0 : Nat) (M' : cl_M), f_X6_next_39 r0 M t0 = some M' → ∀ (H : Heap) (locs : List Loc) (ls : Array Slot), cl_sh dd t0 = 6 → cl_H dd b M s H locs → lv_has ls 2 [(0, .ref (b + t0))] → W p l e { frames := 2, cells := 0, slots := 0, locals := 42 } s m args below meth c H locs 0 0 (cl_Zv below args s dd b M') (F0 m 39 ls []) := by
  have hx := C.1
  have hb := C.2.1
  have hlt := C.2.2.2.2.2.2.2.2.2.2
  have hRr := C.2.2.2.2.2.2.2.2.2.1
  intro M t0 M' hf H locs ls ht0 hw hl
  unfold f_X6_next_39 at hf
  refine lv_aload_n hx hb dX6_next_39 rfl (lv_at hl 0 rfl) ?_
  refine lv_dup hx hb dX6_next_40 rfl ?_
  refine fg_X6_160 C hw ht0 dX6_next_41 ?_
  refine lv_iconst (v := 1) hx hb dX6_next_44 (by decide) ?_
  refine lv_iadd hx hb dX6_next_45 ?_
  obtain ⟨M36, eM36, hf⟩ := cl_let_e hf
  refine fp_X6_160 C hw ht0 eM36 dX6_next_46 (fun H locs hw => ?_)
  refine lv_goto (tgt := 0) hx hb dX6_next_49 (by decide) ?_
  exact hr0 M36 t0 _ hf _ _ _ ht0 hw (lv_sub hl [0] rfl)
def f_X6_next_0 : Nat → cl_M → Nat → Option (cl_M)
  | 0, _, _ => none
  | k + 1, M, t0 => if (M t0 1) ≤ (M t0 14) then f_X6_next_52 M t0 else if cl_inb (M t0 14) 700 = true then if (M (t0 + 1) ((M t0 14).toNatClampNeg)) = 32 then f_X6_next_39 (f_X6_next_0 k) M t0 else if cl_inb (M t0 14) 700 = true then if (M (t0 + 1) ((M t0 14).toNatClampNeg)) = 10 then f_X6_next_39 (f_X6_next_0 k) M t0 else f_X6_next_52 M t0 else none else none
set_option maxHeartbeats 4000000 in
set_option maxRecDepth 100000 in
theorem k_X6_next_0 {p : Program} {l : Launch} {e : Env} {s : State} {m : MethodId} {args : Array Value} {below : List Frame} {meth : Method} {c : Code} {dd : cl_D} {b : Nat} (C : cl_C p l s m args meth c cX6_next RX6 2 none dd b) : ∀ (k : Nat), ∀ (M : cl_M) (t0 : Nat) (M' : cl_M), f_X6_next_0 k M t0 = some M' → ∀ (H : Heap) (locs : List Loc) (ls : Array Slot), cl_sh dd t0 = 6 → cl_H dd b M s H locs → lv_has ls 2 [(0, .ref (b + t0))] → W p l e { frames := 2, cells := 0, slots := 0, locals := 42 } s m args below meth c H locs 0 0 (cl_Zv below args s dd b M') (F0 m 0 ls []) := by
  have hx := C.1
  have hb := C.2.1
  have hlt := C.2.2.2.2.2.2.2.2.2.2
  have hRr := C.2.2.2.2.2.2.2.2.2.1
  intro k
  induction k with
  | zero =>
    intro M t0 M' hf H locs ls ht0 hw hl
    rw [f_X6_next_0] at hf
    cases hf
  | succ k ih =>
    intro M t0 M' hf H locs ls ht0 hw hl
    rw [f_X6_next_0] at hf
    refine lv_aload_n hx hb dX6_next_0 rfl (lv_at hl 0 rfl) ?_
    refine fg_X6_160 C hw ht0 dX6_next_1 ?_
    refine lv_aload_n hx hb dX6_next_4 rfl (lv_at hl 0 rfl) ?_
    refine fg_X6_54 C hw ht0 dX6_next_5 ?_
    refine lv_icmp_ge (tgt := 52) hx hb dX6_next_8 (by decide) (fun c1 => ?_) (fun c1 => ?_)
    · have hf := cl_yes c1 hf
      exact k_X6_next_52 C M t0 _ hf _ _ _ ht0 hw (lv_sub hl [0] rfl)
    · have hf := cl_no c1 hf
      refine lv_aload_n hx hb dX6_next_11 rfl (lv_at hl 0 rfl) ?_
      refine fg_X6_7 C hw ht0 dX6_next_12 ?_
      refine lv_aload_n hx hb dX6_next_15 rfl (lv_at hl 0 rfl) ?_
      refine fg_X6_160 C hw ht0 dX6_next_16 ?_
      obtain ⟨q34, hf⟩ := cl_grd hf
      refine cr_iald C hw (sh_6_0 ht0).1 (sh_6_0 ht0).2 q34 (k := (M t0 14).toNatClampNeg) rfl dX6_next_19 ?_
      refine lv_bipush (v := 32) hx hb dX6_next_20 (by decide) ?_
      refine lv_icmp_eq (tgt := 39) hx hb dX6_next_22 (by decide) (fun c35 => ?_) (fun c35 => ?_)
      · have hf := cl_yes c35 hf
        exact k_X6_next_39 C ih M t0 _ hf _ _ _ ht0 hw (lv_sub hl [0] rfl)
      · have hf := cl_no c35 hf
        refine lv_aload_n hx hb dX6_next_25 rfl (lv_at hl 0 rfl) ?_
        refine fg_X6_7 C hw ht0 dX6_next_26 ?_
        refine lv_aload_n hx hb dX6_next_29 rfl (lv_at hl 0 rfl) ?_
        refine fg_X6_160 C hw ht0 dX6_next_30 ?_
        obtain ⟨q37, hf⟩ := cl_grd hf
        refine cr_iald C hw (sh_6_0 ht0).1 (sh_6_0 ht0).2 q37 (k := (M t0 14).toNatClampNeg) rfl dX6_next_33 ?_
        refine lv_bipush (v := 10) hx hb dX6_next_34 (by decide) ?_
        refine lv_icmp_ne (tgt := 52) hx hb dX6_next_36 (by decide) (fun c38 => ?_) (fun c38 => ?_)
        · have hf := cl_no c38 hf
          exact k_X6_next_52 C M t0 _ hf _ _ _ ht0 hw (lv_sub hl [0] rfl)
        · have hf := cl_yes c38 hf
          exact k_X6_next_39 C ih M t0 _ hf _ _ _ ht0 hw (lv_sub hl [0] rfl)
def f_X6_next (M : cl_M) (t0 : Nat) : Option (cl_M) := f_X6_next_0 cl_F M t0
set_option maxRecDepth 100000 in
theorem c_X6_next {l : Launch} {dd : cl_D} {b : Nat} (hlt : l.stackTraces = false) {M : cl_M} {t0 : Nat}  {M' : cl_M} (ht0 : cl_sh dd t0 = 6) (h : f_X6_next M t0 = some M') : cl_Mv l dd b yX6_next cX6_next 2 none 2 42 [.ref (b + t0)] M M' :=
  cl_of hlt (by decide) (Nat.le_of_ble_eq_true rfl) (fun p e s m below meth c ls C hw hl => k_X6_next_0 C cl_F M t0 M' h _ _ _ ht0 hw (lv_sub hl [0] rfl))
theorem cy_X6_next : cl_cy yX6_next cX6_next 2 none 0 := ⟨in_ClothesLineModel, cd_X6_next, by decide +kernel, by decide +kernel, by decide +kernel⟩
theorem vy_X6_next : cl_vy yX6_next := ⟨im_X6_next, se_X6_next⟩
def f_X6_wrong (M : cl_M) (t0 : Nat) (a1 : Int32) : Option (Int32 × cl_M) := cl_let (cl_ms M t0 2 a1) (fun M1 => cl_let (cl_ms M1 t0 3 (M1 t0 16)) (fun M2 => some (0, M2)))
set_option maxHeartbeats 4000000 in
set_option maxRecDepth 100000 in
theorem k_X6_wrong {p : Program} {l : Launch} {e : Env} {s : State} {m : MethodId} {args : Array Value} {below : List Frame} {meth : Method} {c : Code} {dd : cl_D} {b : Nat} (C : cl_C p l s m args meth c cX6_wrong RX6 2 (some .boolean) dd b) : ∀ (M : cl_M) (t0 : Nat) (a1 : Int32) (r : Int32) (M' : cl_M), f_X6_wrong M t0 a1 = some (r, M') → ∀ (H : Heap) (locs : List Loc) (ls : Array Slot), cl_sh dd t0 = 6 → cl_H dd b M s H locs → lv_has ls 2 [(0, .ref (b + t0)), (1, .int a1)] → W p l e { frames := 0, cells := 0, slots := 0, locals := 0 } s m args below meth c H locs 0 0 (cl_Zi below args s dd b r M') (F0 m 0 ls []) := by
  have hx := C.1
  have hb := C.2.1
  have hlt := C.2.2.2.2.2.2.2.2.2.2
  have hRr := C.2.2.2.2.2.2.2.2.2.1
  intro M t0 a1 r M' hf H locs ls ht0 hw hl
  unfold f_X6_wrong at hf
  refine lv_aload_n hx hb dX6_wrong_0 rfl (lv_at hl 0 rfl) ?_
  refine lv_iload_n hx hb dX6_wrong_1 rfl (lv_at hl 1 rfl) ?_
  obtain ⟨M1, eM1, hf⟩ := cl_let_e hf
  refine fp_X6_179 C hw ht0 eM1 dX6_wrong_2 (fun H locs hw => ?_)
  refine lv_aload_n hx hb dX6_wrong_5 rfl (lv_at hl 0 rfl) ?_
  refine lv_aload_n hx hb dX6_wrong_6 rfl (lv_at hl 0 rfl) ?_
  refine fg_X6_163 C hw ht0 dX6_wrong_7 ?_
  obtain ⟨M2, eM2, hf⟩ := cl_let_e hf
  refine fp_X6_13 C hw ht0 eM2 dX6_wrong_10 (fun H locs hw => ?_)
  refine lv_iconst (v := 0) hx hb dX6_wrong_13 (by decide) ?_
  obtain ⟨rfl, rfl⟩ := cl_pair hf
  exact cr_retz C hw (by decide) dX6_wrong_14
set_option maxRecDepth 100000 in
theorem c_X6_wrong {l : Launch} {dd : cl_D} {b : Nat} (hlt : l.stackTraces = false) {M : cl_M} {t0 : Nat} {a1 : Int32}  {r : Int32} {M' : cl_M} (ht0 : cl_sh dd t0 = 6) (h : f_X6_wrong M t0 a1 = some (r, M')) : cl_Mi l dd b yX6_wrong cX6_wrong 2 (some .boolean) 0 0 [.ref (b + t0), .int a1] M r M' :=
  cl_of hlt (by decide) (Nat.le_of_ble_eq_true rfl) (fun p e s m below meth c ls C hw hl => k_X6_wrong C M t0 a1 r M' h _ _ _ ht0 hw (lv_sub hl [0, 1] rfl))
theorem cy_X6_wrong : cl_cy yX6_wrong cX6_wrong 2 (some .boolean) 1 := ⟨in_ClothesLineModel, cd_X6_wrong, by decide +kernel, by decide +kernel, by decide +kernel⟩
theorem vy_X6_wrong : cl_vy yX6_wrong := ⟨im_X6_wrong, se_X6_wrong⟩
def f_X6_isWord_86 (M : cl_M) (z0 : Int32) : Option (Int32) := if cl_bz z0 = true then some z0 else none
set_option maxHeartbeats 4000000 in
set_option maxRecDepth 100000 in
theorem k_X6_isWord_86 {p : Program} {l : Launch} {e : Env} {s : State} {m : MethodId} {args : Array Value} {below : List Frame} {meth : Method} {c : Code} {dd : cl_D} {b : Nat} (C : cl_C p l s m args meth c cX6_isWord RX6 4 (some .boolean) dd b) : ∀ (M : cl_M) (z0 : Int32) (r : Int32), f_X6_isWord_86 M z0 = some r → ∀ (H : Heap) (locs : List Loc) (ls : Array Slot), cl_H dd b M s H locs → lv_has ls 4 [] → W p l e { frames := 4, cells := 0, slots := 0, locals := 85 } s m args below meth c H locs 0 0 (cl_Zi below args s dd b r M) (F0 m 86 ls [.int z0]) := by
  have hx := C.1
  have hb := C.2.1
  have hlt := C.2.2.2.2.2.2.2.2.2.2
  have hRr := C.2.2.2.2.2.2.2.2.2.1
  intro M z0 r hf H locs ls hw hl
  unfold f_X6_isWord_86 at hf
  obtain ⟨q5, hf⟩ := cl_grd hf
  obtain rfl := Option.some.inj hf
  exact cr_retz C hw q5 dX6_isWord_86
def f_X6_isWord_62 (r29 : cl_M → Nat → Nat → Int32 → Int32 → Option (Int32)) (M : cl_M) (t0 : Nat) (i1 : Nat) (a3 : Int32) (z0 : Int32) (z1 : Int32) : Option (Int32) := (f_X6_flag M z0).bind (fun v9 => cl_let (z1 + v9) (fun v11 => cl_let (a3 + 1) (fun v12 => r29 M t0 i1 v11 v12)))
set_option maxHeartbeats 4000000 in
set_option maxRecDepth 100000 in
theorem k_X6_isWord_62 {p : Program} {l : Launch} {e : Env} {s : State} {m : MethodId} {args : Array Value} {below : List Frame} {meth : Method} {c : Code} {dd : cl_D} {b : Nat} (C : cl_C p l s m args meth c cX6_isWord RX6 4 (some .boolean) dd b) {r29 : cl_M → Nat → Nat → Int32 → Int32 → Option (Int32)} (hr29 : ∀ (M : cl_M) (t0 : Nat) (i1 : Nat) (a2 : Int32) (a3 : Int32) (r : Int32), r29 M t0 i1 a2 a3 = some r → ∀ (H : Heap) (locs : List Loc) (ls : Array Slot), cl_sh dd t0 = 6 → i1 < 29 → cl_H dd b M s H locs → lv_has ls 4 [(0, .ref (b + t0)), (1, .ref (dd.2.2.1 i1)), (2, .int a2), (3, .int a3)] → W p l e { frames := 4, cells := 0, slots := 0, locals := 85 } s m args below meth c H locs 0 0 (cl_Zi below args s dd b r M) (F0 m 29 ls [])) : ∀ (M : cl_M) (t0 : Nat) (i1 : Nat) (a3 : Int32) (z0 : Int32) (z1 : Int32) (r : Int32), f_X6_isWord_62 r29 M t0 i1 a3 z0 z1 = some r → ∀ (H : Heap) (locs : List Loc) (ls : Array Slot), cl_sh dd t0 = 6 → i1 < 29 → cl_H dd b M s H locs → lv_has ls 4 [(0, .ref (b + t0)), (1, .ref (dd.2.2.1 i1)), (3, .int a3)] → W p l e { frames := 4, cells := 0, slots := 0, locals := 85 } s m args below meth c H locs 0 0 (cl_Zi below args s dd b r M) (F0 m 62 ls [.int z0, .int z1]) := by
  have hx := C.1
  have hb := C.2.1
  have hlt := C.2.2.2.2.2.2.2.2.2.2
  have hRr := C.2.2.2.2.2.2.2.2.2.1
  intro M t0 i1 a3 z0 z1 r hf H locs ls ht0 hi1 hw hl
  unfold f_X6_isWord_62 at hf
  obtain ⟨v9, e10, hf⟩ := cl_bind_e hf
  refine cr_Si C hw (c_X6_flag hlt e10) cy_X6_flag st_X6_flag ml_X6_146 (As := [.int z0]) rfl hl.1 rfl ⟨⟨Nat.le_of_ble_eq_true rfl, Nat.le_of_ble_eq_true rfl⟩, Nat.le_of_ble_eq_true rfl, Nat.le_of_ble_eq_true rfl, Nat.le_of_ble_eq_true rfl⟩ dX6_isWord_62 (fun H locs hw => ?_)
  refine lv_iadd hx hb dX6_isWord_65 ?_
  obtain ⟨v11, ev11, hf⟩ := cl_let_e hf
  refine cr_top ev11 ?_
  refine lv_istore_n (lv' := [(2, .int v11), (0, .ref (b + t0)), (1, .ref (dd.2.2.1 i1)), (3, .int a3)]) hx hb dX6_isWord_66 rfl hl (by decide) rfl (fun ls hl => ?_)
  obtain ⟨v12, ev12, hf⟩ := cl_let_e hf
  refine lv_iinc (v := v12) (lv' := [(3, .int v12), (2, .int v11), (0, .ref (b + t0)), (1, .ref (dd.2.2.1 i1))]) hx hb dX6_isWord_67 hl (k := 3) rfl (by rw [ev12]; rfl) (by decide) rfl (fun ls hl => ?_)
  refine lv_goto (tgt := 29) hx hb dX6_isWord_70 (by decide) ?_
  exact hr29 M t0 i1 v11 v12 _ hf _ _ _ ht0 hi1 hw (lv_sub hl [2, 3, 1, 0] rfl)
def f_X6_isWord_29 : Nat → cl_M → Nat → Nat → Int32 → Int32 → Option (Int32)
  | 0, _, _, _, _, _ => none
  | k + 1, M, t0, i1, a2, a3 => if (nI (cl_sl i1)) ≤ a3 then if a2 = (nI (cl_sl i1)) then f_X6_isWord_86 M 1 else f_X6_isWord_86 M 0 else if cl_inb ((M t0 16) + a3) 700 = true then if cl_inb a3 (cl_sl i1) = true then if (M (t0 + 1) (((M t0 16) + a3).toNatClampNeg)) = (cl_ch i1 (a3).toNatClampNeg) then f_X6_isWord_62 (f_X6_isWord_29 k) M t0 i1 a3 1 a2 else f_X6_isWord_62 (f_X6_isWord_29 k) M t0 i1 a3 0 a2 else none else none
set_option maxHeartbeats 4000000 in
set_option maxRecDepth 100000 in
theorem k_X6_isWord_29 {p : Program} {l : Launch} {e : Env} {s : State} {m : MethodId} {args : Array Value} {below : List Frame} {meth : Method} {c : Code} {dd : cl_D} {b : Nat} (C : cl_C p l s m args meth c cX6_isWord RX6 4 (some .boolean) dd b) : ∀ (k : Nat), ∀ (M : cl_M) (t0 : Nat) (i1 : Nat) (a2 : Int32) (a3 : Int32) (r : Int32), f_X6_isWord_29 k M t0 i1 a2 a3 = some r → ∀ (H : Heap) (locs : List Loc) (ls : Array Slot), cl_sh dd t0 = 6 → i1 < 29 → cl_H dd b M s H locs → lv_has ls 4 [(0, .ref (b + t0)), (1, .ref (dd.2.2.1 i1)), (2, .int a2), (3, .int a3)] → W p l e { frames := 4, cells := 0, slots := 0, locals := 85 } s m args below meth c H locs 0 0 (cl_Zi below args s dd b r M) (F0 m 29 ls []) := by
  have hx := C.1
  have hb := C.2.1
  have hlt := C.2.2.2.2.2.2.2.2.2.2
  have hRr := C.2.2.2.2.2.2.2.2.2.1
  intro k
  induction k with
  | zero =>
    intro M t0 i1 a2 a3 r hf H locs ls ht0 hi1 hw hl
    rw [f_X6_isWord_29] at hf
    cases hf
  | succ k ih =>
    intro M t0 i1 a2 a3 r hf H locs ls ht0 hi1 hw hl
    rw [f_X6_isWord_29] at hf
    refine lv_iload_n hx hb dX6_isWord_29 rfl (lv_at hl 3 rfl) ?_
    refine lv_aload_n hx hb dX6_isWord_30 rfl (lv_at hl 1 rfl) ?_
    refine cr_slen C hw hi1 ml_X6_44 hl.1 rfl ⟨⟨Nat.le_of_ble_eq_true rfl, Nat.le_of_ble_eq_true rfl⟩, Nat.le_of_ble_eq_true rfl, Nat.le_of_ble_eq_true rfl, Nat.le_of_ble_eq_true rfl⟩ dX6_isWord_31 (fun H locs hw => ?_)
    refine lv_icmp_ge (tgt := 73) hx hb dX6_isWord_34 (by decide) (fun c3 => ?_) (fun c3 => ?_)
    · have hf := cl_yes c3 hf
      refine lv_iload_n hx hb dX6_isWord_73 rfl (lv_at hl 2 rfl) ?_
      refine lv_aload_n hx hb dX6_isWord_74 rfl (lv_at hl 1 rfl) ?_
      refine cr_slen C hw hi1 ml_X6_44 hl.1 rfl ⟨⟨Nat.le_of_ble_eq_true rfl, Nat.le_of_ble_eq_true rfl⟩, Nat.le_of_ble_eq_true rfl, Nat.le_of_ble_eq_true rfl, Nat.le_of_ble_eq_true rfl⟩ dX6_isWord_75 (fun H locs hw => ?_)
      refine lv_icmp_ne (tgt := 85) hx hb dX6_isWord_78 (by decide) (fun c4 => ?_) (fun c4 => ?_)
      · have hf := cl_no c4 hf
        refine lv_iconst (v := 0) hx hb dX6_isWord_85 (by decide) ?_
        exact k_X6_isWord_86 C M 0 _ hf _ _ _ hw (lv_sub hl [] rfl)
      · have hf := cl_yes c4 hf
        refine lv_iconst (v := 1) hx hb dX6_isWord_81 (by decide) ?_
        refine lv_goto (tgt := 86) hx hb dX6_isWord_82 (by decide) ?_
        exact k_X6_isWord_86 C M 1 _ hf _ _ _ hw (lv_sub hl [] rfl)
    · have hf := cl_no c3 hf
      refine lv_iload_n hx hb dX6_isWord_37 rfl (lv_at hl 2 rfl) ?_
      refine lv_aload_n hx hb dX6_isWord_38 rfl (lv_at hl 0 rfl) ?_
      refine fg_X6_7 C hw ht0 dX6_isWord_39 ?_
      refine lv_aload_n hx hb dX6_isWord_42 rfl (lv_at hl 0 rfl) ?_
      refine fg_X6_163 C hw ht0 dX6_isWord_43 ?_
      refine lv_iload_n hx hb dX6_isWord_46 rfl (lv_at hl 3 rfl) ?_
      refine lv_iadd hx hb dX6_isWord_47 ?_
      obtain ⟨q6, hf⟩ := cl_grd hf
      refine cr_iald C hw (sh_6_0 ht0).1 (sh_6_0 ht0).2 q6 (k := ((M t0 16) + a3).toNatClampNeg) rfl dX6_isWord_48 ?_
      refine lv_aload_n hx hb dX6_isWord_49 rfl (lv_at hl 1 rfl) ?_
      refine lv_iload_n hx hb dX6_isWord_50 rfl (lv_at hl 3 rfl) ?_
      obtain ⟨q7, hf⟩ := cl_grd hf
      refine cr_schar C hw hi1 q7 ml_X6_50 hl.1 rfl ⟨⟨Nat.le_of_ble_eq_true rfl, Nat.le_of_ble_eq_true rfl⟩, Nat.le_of_ble_eq_true rfl, Nat.le_of_ble_eq_true rfl, Nat.le_of_ble_eq_true rfl⟩ dX6_isWord_51 (fun H locs hw => ?_)
      refine lv_icmp_ne (tgt := 61) hx hb dX6_isWord_54 (by decide) (fun c8 => ?_) (fun c8 => ?_)
      · have hf := cl_no c8 hf
        refine lv_iconst (v := 0) hx hb dX6_isWord_61 (by decide) ?_
        exact k_X6_isWord_62 C ih M t0 i1 a3 0 a2 _ hf _ _ _ ht0 hi1 hw (lv_sub hl [0, 1, 3] rfl)
      · have hf := cl_yes c8 hf
        refine lv_iconst (v := 1) hx hb dX6_isWord_57 (by decide) ?_
        refine lv_goto (tgt := 62) hx hb dX6_isWord_58 (by decide) ?_
        exact k_X6_isWord_62 C ih M t0 i1 a3 1 a2 _ hf _ _ _ ht0 hi1 hw (lv_sub hl [0, 1, 3] rfl)
def f_X6_isWord (M : cl_M) (t0 : Nat) (i1 : Nat) : Option (Int32) := if (M t0 15) = 0 then if ((M t0 14) - (M t0 16)) = (nI (cl_sl i1)) then f_X6_isWord_29 cl_F M t0 i1 0 0 else some 0 else some 0
set_option maxHeartbeats 4000000 in
set_option maxRecDepth 100000 in
theorem k_X6_isWord {p : Program} {l : Launch} {e : Env} {s : State} {m : MethodId} {args : Array Value} {below : List Frame} {meth : Method} {c : Code} {dd : cl_D} {b : Nat} (C : cl_C p l s m args meth c cX6_isWord RX6 4 (some .boolean) dd b) : ∀ (M : cl_M) (t0 : Nat) (i1 : Nat) (r : Int32), f_X6_isWord M t0 i1 = some r → ∀ (H : Heap) (locs : List Loc) (ls : Array Slot), cl_sh dd t0 = 6 → i1 < 29 → cl_H dd b M s H locs → lv_has ls 4 [(0, .ref (b + t0)), (1, .ref (dd.2.2.1 i1))] → W p l e { frames := 4, cells := 0, slots := 0, locals := 85 } s m args below meth c H locs 0 0 (cl_Zi below args s dd b r M) (F0 m 0 ls []) := by
  have hx := C.1
  have hb := C.2.1
  have hlt := C.2.2.2.2.2.2.2.2.2.2
  have hRr := C.2.2.2.2.2.2.2.2.2.1
  intro M t0 i1 r hf H locs ls ht0 hi1 hw hl
  unfold f_X6_isWord at hf
  refine lv_aload_n hx hb dX6_isWord_0 rfl (lv_at hl 0 rfl) ?_
  refine fg_X6_166 C hw ht0 dX6_isWord_1 ?_
  refine lv_if_ne (tgt := 23) hx hb dX6_isWord_4 (by decide) (fun c1 => ?_) (fun c1 => ?_)
  · have hf := cl_no c1 hf
    refine lv_iconst (v := 0) hx hb dX6_isWord_23 (by decide) ?_
    obtain rfl := Option.some.inj hf
    exact cr_retz C hw (by decide) dX6_isWord_24
  · have hf := cl_yes c1 hf
    refine lv_aload_n hx hb dX6_isWord_7 rfl (lv_at hl 0 rfl) ?_
    refine fg_X6_160 C hw ht0 dX6_isWord_8 ?_
    refine lv_aload_n hx hb dX6_isWord_11 rfl (lv_at hl 0 rfl) ?_
    refine fg_X6_163 C hw ht0 dX6_isWord_12 ?_
    refine lv_isub hx hb dX6_isWord_15 ?_
    refine lv_aload_n hx hb dX6_isWord_16 rfl (lv_at hl 1 rfl) ?_
    refine cr_slen C hw hi1 ml_X6_44 hl.1 rfl ⟨⟨Nat.le_of_ble_eq_true rfl, Nat.le_of_ble_eq_true rfl⟩, Nat.le_of_ble_eq_true rfl, Nat.le_of_ble_eq_true rfl, Nat.le_of_ble_eq_true rfl⟩ dX6_isWord_17 (fun H locs hw => ?_)
    refine lv_icmp_eq (tgt := 25) hx hb dX6_isWord_20 (by decide) (fun c2 => ?_) (fun c2 => ?_)
    · have hf := cl_yes c2 hf
      refine lv_iconst (v := 0) hx hb dX6_isWord_25 (by decide) ?_
      refine lv_istore_n (lv' := [(2, .int 0), (0, .ref (b + t0)), (1, .ref (dd.2.2.1 i1))]) hx hb dX6_isWord_26 rfl hl (by decide) rfl (fun ls hl => ?_)
      refine lv_iconst (v := 0) hx hb dX6_isWord_27 (by decide) ?_
      refine lv_istore_n (lv' := [(3, .int 0), (2, .int 0), (0, .ref (b + t0)), (1, .ref (dd.2.2.1 i1))]) hx hb dX6_isWord_28 rfl hl (by decide) rfl (fun ls hl => ?_)
      exact k_X6_isWord_29 C cl_F M t0 i1 0 0 _ hf _ _ _ ht0 hi1 hw (lv_sub hl [2, 3, 1, 0] rfl)
    · have hf := cl_no c2 hf
      refine lv_iconst (v := 0) hx hb dX6_isWord_23 (by decide) ?_
      obtain rfl := Option.some.inj hf
      exact cr_retz C hw (by decide) dX6_isWord_24
set_option maxRecDepth 100000 in
theorem c_X6_isWord {l : Launch} {dd : cl_D} {b : Nat} (hlt : l.stackTraces = false) {M : cl_M} {t0 : Nat} {i1 : Nat}  {r : Int32} (ht0 : cl_sh dd t0 = 6) (hi1 : i1 < 29) (h : f_X6_isWord M t0 i1 = some r) : cl_Mi l dd b yX6_isWord cX6_isWord 4 (some .boolean) 4 85 [.ref (b + t0), .ref (dd.2.2.1 i1)] M r M :=
  cl_of hlt (by decide) (Nat.le_of_ble_eq_true rfl) (fun p e s m below meth c ls C hw hl => k_X6_isWord C M t0 i1 r h _ _ _ ht0 hi1 hw (lv_sub hl [0, 1] rfl))
theorem cy_X6_isWord : cl_cy yX6_isWord cX6_isWord 4 (some .boolean) 1 := ⟨in_ClothesLineModel, cd_X6_isWord, by decide +kernel, by decide +kernel, by decide +kernel⟩
theorem vy_X6_isWord : cl_vy yX6_isWord := ⟨im_X6_isWord, se_X6_isWord⟩
def f_X6_expects (M : cl_M) (t0 : Nat) (i1 : Nat) : Option (Int32 × cl_M) := (f_X6_isWord M t0 i1).bind (fun v1 => if v1 = 0 then cl_b2 (f_X6_wrong M t0 1) (fun v6 M7 => if cl_bz v6 = true then some (v6, M7) else none) else (f_X6_next M t0).bind (fun M4 => some (1, M4)))
set_option maxHeartbeats 4000000 in
set_option maxRecDepth 100000 in
theorem k_X6_expects {p : Program} {l : Launch} {e : Env} {s : State} {m : MethodId} {args : Array Value} {below : List Frame} {meth : Method} {c : Code} {dd : cl_D} {b : Nat} (C : cl_C p l s m args meth c cX6_expects RX6 2 (some .boolean) dd b) : ∀ (M : cl_M) (t0 : Nat) (i1 : Nat) (r : Int32) (M' : cl_M), f_X6_expects M t0 i1 = some (r, M') → ∀ (H : Heap) (locs : List Loc) (ls : Array Slot), cl_sh dd t0 = 6 → i1 < 29 → cl_H dd b M s H locs → lv_has ls 2 [(0, .ref (b + t0)), (1, .ref (dd.2.2.1 i1))] → W p l e { frames := 5, cells := 0, slots := 0, locals := 108 } s m args below meth c H locs 0 0 (cl_Zi below args s dd b r M') (F0 m 0 ls []) := by
  have hx := C.1
  have hb := C.2.1
  have hlt := C.2.2.2.2.2.2.2.2.2.2
  have hRr := C.2.2.2.2.2.2.2.2.2.1
  intro M t0 i1 r M' hf H locs ls ht0 hi1 hw hl
  unfold f_X6_expects at hf
  refine lv_aload_n hx hb dX6_expects_0 rfl (lv_at hl 0 rfl) ?_
  refine lv_aload_n hx hb dX6_expects_1 rfl (lv_at hl 1 rfl) ?_
  obtain ⟨v1, e2, hf⟩ := cl_bind_e hf
  refine cr_Vi C hw (c_X6_isWord hlt ht0 hi1 e2) cy_X6_isWord vy_X6_isWord ml_X6_182 (cl_lt ht0 (by decide)) (cl_e6 ht0) rfl rfl (As := [.ref (dd.2.2.1 i1)]) rfl hl.1 rfl ⟨⟨Nat.le_of_ble_eq_true rfl, Nat.le_of_ble_eq_true rfl⟩, Nat.le_of_ble_eq_true rfl, Nat.le_of_ble_eq_true rfl, Nat.le_of_ble_eq_true rfl⟩ dX6_expects_2 (fun H locs hw => ?_)
  refine lv_if_ne (tgt := 14) hx hb dX6_expects_5 (by decide) (fun c3 => ?_) (fun c3 => ?_)
  · have hf := cl_no c3 hf
    refine lv_aload_n hx hb dX6_expects_14 rfl (lv_at hl 0 rfl) ?_
    obtain ⟨M4, e5, hf⟩ := cl_bind_e hf
    refine cr_Vv C hw (c_X6_next hlt ht0 e5) cy_X6_next vy_X6_next ml_X6_189 (cl_lt ht0 (by decide)) (cl_e6 ht0) rfl rfl (As := []) rfl hl.1 rfl ⟨⟨Nat.le_of_ble_eq_true rfl, Nat.le_of_ble_eq_true rfl⟩, Nat.le_of_ble_eq_true rfl, Nat.le_of_ble_eq_true rfl, Nat.le_of_ble_eq_true rfl⟩ dX6_expects_15 (fun H locs hw => ?_)
    refine lv_iconst (v := 1) hx hb dX6_expects_18 (by decide) ?_
    obtain ⟨rfl, rfl⟩ := cl_pair hf
    exact cr_retz C hw (by decide) dX6_expects_19
  · have hf := cl_yes c3 hf
    refine lv_aload_n hx hb dX6_expects_8 rfl (lv_at hl 0 rfl) ?_
    refine lv_iconst (v := 1) hx hb dX6_expects_9 (by decide) ?_
    obtain ⟨v6, M7, e8, hf⟩ := cl_b2_e hf
    refine cr_Vi C hw (c_X6_wrong hlt ht0 e8) cy_X6_wrong vy_X6_wrong ml_X6_186 (cl_lt ht0 (by decide)) (cl_e6 ht0) rfl rfl (As := [.int 1]) rfl hl.1 rfl ⟨⟨Nat.le_of_ble_eq_true rfl, Nat.le_of_ble_eq_true rfl⟩, Nat.le_of_ble_eq_true rfl, Nat.le_of_ble_eq_true rfl, Nat.le_of_ble_eq_true rfl⟩ dX6_expects_10 (fun H locs hw => ?_)
    obtain ⟨q9, hf⟩ := cl_grd hf
    obtain ⟨rfl, rfl⟩ := cl_pair hf
    exact cr_retz C hw q9 dX6_expects_13
set_option maxRecDepth 100000 in
theorem c_X6_expects {l : Launch} {dd : cl_D} {b : Nat} (hlt : l.stackTraces = false) {M : cl_M} {t0 : Nat} {i1 : Nat}  {r : Int32} {M' : cl_M} (ht0 : cl_sh dd t0 = 6) (hi1 : i1 < 29) (h : f_X6_expects M t0 i1 = some (r, M')) : cl_Mi l dd b yX6_expects cX6_expects 2 (some .boolean) 5 108 [.ref (b + t0), .ref (dd.2.2.1 i1)] M r M' :=
  cl_of hlt (by decide) (Nat.le_of_ble_eq_true rfl) (fun p e s m below meth c ls C hw hl => k_X6_expects C M t0 i1 r M' h _ _ _ ht0 hi1 hw (lv_sub hl [0, 1] rfl))
theorem cy_X6_expects : cl_cy yX6_expects cX6_expects 2 (some .boolean) 1 := ⟨in_ClothesLineModel, cd_X6_expects, by decide +kernel, by decide +kernel, by decide +kernel⟩
theorem vy_X6_expects : cl_vy yX6_expects := ⟨im_X6_expects, se_X6_expects⟩
def f_X6_numberIn_39 (M : cl_M) (z0 : Int32) : Option (Int32 × cl_M) := if cl_bz z0 = true then some (z0, M) else none
set_option maxHeartbeats 4000000 in
set_option maxRecDepth 100000 in
theorem k_X6_numberIn_39 {p : Program} {l : Launch} {e : Env} {s : State} {m : MethodId} {args : Array Value} {below : List Frame} {meth : Method} {c : Code} {dd : cl_D} {b : Nat} (C : cl_C p l s m args meth c cX6_numberIn RX6 3 (some .boolean) dd b) : ∀ (M : cl_M) (z0 : Int32) (r : Int32) (M' : cl_M), f_X6_numberIn_39 M z0 = some (r, M') → ∀ (H : Heap) (locs : List Loc) (ls : Array Slot), cl_H dd b M s H locs → lv_has ls 3 [] → W p l e { frames := 1, cells := 0, slots := 0, locals := 22 } s m args below meth c H locs 0 0 (cl_Zi below args s dd b r M') (F0 m 39 ls [.int z0]) := by
  have hx := C.1
  have hb := C.2.1
  have hlt := C.2.2.2.2.2.2.2.2.2.2
  have hRr := C.2.2.2.2.2.2.2.2.2.1
  intro M z0 r M' hf H locs ls hw hl
  unfold f_X6_numberIn_39 at hf
  obtain ⟨q5, hf⟩ := cl_grd hf
  obtain ⟨rfl, rfl⟩ := cl_pair hf
  exact cr_retz C hw q5 dX6_numberIn_39
def f_X6_numberIn_34 (M : cl_M) : Option (Int32 × cl_M) := f_X6_numberIn_39 M 1
set_option maxHeartbeats 4000000 in
set_option maxRecDepth 100000 in
theorem k_X6_numberIn_34 {p : Program} {l : Launch} {e : Env} {s : State} {m : MethodId} {args : Array Value} {below : List Frame} {meth : Method} {c : Code} {dd : cl_D} {b : Nat} (C : cl_C p l s m args meth c cX6_numberIn RX6 3 (some .boolean) dd b) : ∀ (M : cl_M) (r : Int32) (M' : cl_M), f_X6_numberIn_34 M = some (r, M') → ∀ (H : Heap) (locs : List Loc) (ls : Array Slot), cl_H dd b M s H locs → lv_has ls 3 [] → W p l e { frames := 1, cells := 0, slots := 0, locals := 22 } s m args below meth c H locs 0 0 (cl_Zi below args s dd b r M') (F0 m 34 ls []) := by
  have hx := C.1
  have hb := C.2.1
  have hlt := C.2.2.2.2.2.2.2.2.2.2
  have hRr := C.2.2.2.2.2.2.2.2.2.1
  intro M r M' hf H locs ls hw hl
  unfold f_X6_numberIn_34 at hf
  refine lv_iconst (v := 1) hx hb dX6_numberIn_34 (by decide) ?_
  refine lv_goto (tgt := 39) hx hb dX6_numberIn_35 (by decide) ?_
  exact k_X6_numberIn_39 C M 1 _ _ hf _ _ _ hw (lv_sub hl [] rfl)
def f_X6_numberIn (M : cl_M) (t0 : Nat) (a1 : Int32) (a2 : Int32) : Option (Int32 × cl_M) := if (M t0 15) = 1 then (f_X6_inRange M (M t0 17) a1 a2).bind (fun v2 => if v2 = 0 then cl_b2 (f_X6_wrong M t0 2) (fun v6 M7 => if v6 = 0 then f_X6_numberIn_39 M7 0 else f_X6_numberIn_34 M7) else f_X6_numberIn_34 M) else cl_b2 (f_X6_wrong M t0 1) (fun v10 M11 => if cl_bz v10 = true then some (v10, M11) else none)
set_option maxHeartbeats 4000000 in
set_option maxRecDepth 100000 in
theorem k_X6_numberIn {p : Program} {l : Launch} {e : Env} {s : State} {m : MethodId} {args : Array Value} {below : List Frame} {meth : Method} {c : Code} {dd : cl_D} {b : Nat} (C : cl_C p l s m args meth c cX6_numberIn RX6 3 (some .boolean) dd b) : ∀ (M : cl_M) (t0 : Nat) (a1 : Int32) (a2 : Int32) (r : Int32) (M' : cl_M), f_X6_numberIn M t0 a1 a2 = some (r, M') → ∀ (H : Heap) (locs : List Loc) (ls : Array Slot), cl_sh dd t0 = 6 → cl_H dd b M s H locs → lv_has ls 3 [(0, .ref (b + t0)), (1, .int a1), (2, .int a2)] → W p l e { frames := 1, cells := 0, slots := 0, locals := 22 } s m args below meth c H locs 0 0 (cl_Zi below args s dd b r M') (F0 m 0 ls []) := by
  have hx := C.1
  have hb := C.2.1
  have hlt := C.2.2.2.2.2.2.2.2.2.2
  have hRr := C.2.2.2.2.2.2.2.2.2.1
  intro M t0 a1 a2 r M' hf H locs ls ht0 hw hl
  unfold f_X6_numberIn at hf
  refine lv_aload_n hx hb dX6_numberIn_0 rfl (lv_at hl 0 rfl) ?_
  refine fg_X6_166 C hw ht0 dX6_numberIn_1 ?_
  refine lv_iconst (v := 1) hx hb dX6_numberIn_4 (by decide) ?_
  refine lv_icmp_eq (tgt := 14) hx hb dX6_numberIn_5 (by decide) (fun c1 => ?_) (fun c1 => ?_)
  · have hf := cl_yes c1 hf
    refine lv_aload_n hx hb dX6_numberIn_14 rfl (lv_at hl 0 rfl) ?_
    refine fg_X6_175 C hw ht0 dX6_numberIn_15 ?_
    refine lv_iload_n hx hb dX6_numberIn_18 rfl (lv_at hl 1 rfl) ?_
    refine lv_iload_n hx hb dX6_numberIn_19 rfl (lv_at hl 2 rfl) ?_
    obtain ⟨v2, e3, hf⟩ := cl_bind_e hf
    refine cr_Si C hw (c_X6_inRange hlt e3) cy_X6_inRange st_X6_inRange ml_X6_63 (As := [.int (M t0 17), .int a1, .int a2]) rfl hl.1 rfl ⟨⟨Nat.le_of_ble_eq_true rfl, Nat.le_of_ble_eq_true rfl⟩, Nat.le_of_ble_eq_true rfl, Nat.le_of_ble_eq_true rfl, Nat.le_of_ble_eq_true rfl⟩ dX6_numberIn_20 (fun H locs hw => ?_)
    refine lv_if_ne (tgt := 34) hx hb dX6_numberIn_23 (by decide) (fun c4 => ?_) (fun c4 => ?_)
    · have hf := cl_no c4 hf
      exact k_X6_numberIn_34 C M _ _ hf _ _ _ hw (lv_sub hl [] rfl)
    · have hf := cl_yes c4 hf
      refine lv_aload_n hx hb dX6_numberIn_26 rfl (lv_at hl 0 rfl) ?_
      refine lv_iconst (v := 2) hx hb dX6_numberIn_27 (by decide) ?_
      obtain ⟨v6, M7, e8, hf⟩ := cl_b2_e hf
      refine cr_Vi C hw (c_X6_wrong hlt ht0 e8) cy_X6_wrong vy_X6_wrong ml_X6_186 (cl_lt ht0 (by decide)) (cl_e6 ht0) rfl rfl (As := [.int 2]) rfl hl.1 rfl ⟨⟨Nat.le_of_ble_eq_true rfl, Nat.le_of_ble_eq_true rfl⟩, Nat.le_of_ble_eq_true rfl, Nat.le_of_ble_eq_true rfl, Nat.le_of_ble_eq_true rfl⟩ dX6_numberIn_28 (fun H locs hw => ?_)
      refine lv_if_eq (tgt := 38) hx hb dX6_numberIn_31 (by decide) (fun c9 => ?_) (fun c9 => ?_)
      · have hf := cl_yes c9 hf
        refine lv_iconst (v := 0) hx hb dX6_numberIn_38 (by decide) ?_
        exact k_X6_numberIn_39 C M7 0 _ _ hf _ _ _ hw (lv_sub hl [] rfl)
      · have hf := cl_no c9 hf
        exact k_X6_numberIn_34 C M7 _ _ hf _ _ _ hw (lv_sub hl [] rfl)
  · have hf := cl_no c1 hf
    refine lv_aload_n hx hb dX6_numberIn_8 rfl (lv_at hl 0 rfl) ?_
    refine lv_iconst (v := 1) hx hb dX6_numberIn_9 (by decide) ?_
    obtain ⟨v10, M11, e12, hf⟩ := cl_b2_e hf
    refine cr_Vi C hw (c_X6_wrong hlt ht0 e12) cy_X6_wrong vy_X6_wrong ml_X6_186 (cl_lt ht0 (by decide)) (cl_e6 ht0) rfl rfl (As := [.int 1]) rfl hl.1 rfl ⟨⟨Nat.le_of_ble_eq_true rfl, Nat.le_of_ble_eq_true rfl⟩, Nat.le_of_ble_eq_true rfl, Nat.le_of_ble_eq_true rfl, Nat.le_of_ble_eq_true rfl⟩ dX6_numberIn_10 (fun H locs hw => ?_)
    obtain ⟨q13, hf⟩ := cl_grd hf
    obtain ⟨rfl, rfl⟩ := cl_pair hf
    exact cr_retz C hw q13 dX6_numberIn_13
set_option maxRecDepth 100000 in
theorem c_X6_numberIn {l : Launch} {dd : cl_D} {b : Nat} (hlt : l.stackTraces = false) {M : cl_M} {t0 : Nat} {a1 : Int32} {a2 : Int32}  {r : Int32} {M' : cl_M} (ht0 : cl_sh dd t0 = 6) (h : f_X6_numberIn M t0 a1 a2 = some (r, M')) : cl_Mi l dd b yX6_numberIn cX6_numberIn 3 (some .boolean) 1 22 [.ref (b + t0), .int a1, .int a2] M r M' :=
  cl_of hlt (by decide) (Nat.le_of_ble_eq_true rfl) (fun p e s m below meth c ls C hw hl => k_X6_numberIn C M t0 a1 a2 r M' h _ _ _ ht0 hw (lv_sub hl [0, 1, 2] rfl))
theorem cy_X6_numberIn : cl_cy yX6_numberIn cX6_numberIn 3 (some .boolean) 2 := ⟨in_ClothesLineModel, cd_X6_numberIn, by decide +kernel, by decide +kernel, by decide +kernel⟩
theorem vy_X6_numberIn : cl_vy yX6_numberIn := ⟨im_X6_numberIn, se_X6_numberIn⟩
def f_X6_isEnd_21 (M : cl_M) (z0 : Int32) : Option (Int32 × cl_M) := if cl_bz z0 = true then some (z0, M) else none
set_option maxHeartbeats 4000000 in
set_option maxRecDepth 100000 in
theorem k_X6_isEnd_21 {p : Program} {l : Launch} {e : Env} {s : State} {m : MethodId} {args : Array Value} {below : List Frame} {meth : Method} {c : Code} {dd : cl_D} {b : Nat} (C : cl_C p l s m args meth c cX6_isEnd RX6 1 (some .boolean) dd b) : ∀ (M : cl_M) (z0 : Int32) (r : Int32) (M' : cl_M), f_X6_isEnd_21 M z0 = some (r, M') → ∀ (H : Heap) (locs : List Loc) (ls : Array Slot), cl_H dd b M s H locs → lv_has ls 1 [] → W p l e { frames := 1, cells := 0, slots := 0, locals := 21 } s m args below meth c H locs 0 0 (cl_Zi below args s dd b r M') (F0 m 21 ls [.int z0]) := by
  have hx := C.1
  have hb := C.2.1
  have hlt := C.2.2.2.2.2.2.2.2.2.2
  have hRr := C.2.2.2.2.2.2.2.2.2.1
  intro M z0 r M' hf H locs ls hw hl
  unfold f_X6_isEnd_21 at hf
  obtain ⟨q2, hf⟩ := cl_grd hf
  obtain ⟨rfl, rfl⟩ := cl_pair hf
  exact cr_retz C hw q2 dX6_isEnd_21
def f_X6_isEnd_16 (M : cl_M) : Option (Int32 × cl_M) := f_X6_isEnd_21 M 1
set_option maxHeartbeats 4000000 in
set_option maxRecDepth 100000 in
theorem k_X6_isEnd_16 {p : Program} {l : Launch} {e : Env} {s : State} {m : MethodId} {args : Array Value} {below : List Frame} {meth : Method} {c : Code} {dd : cl_D} {b : Nat} (C : cl_C p l s m args meth c cX6_isEnd RX6 1 (some .boolean) dd b) : ∀ (M : cl_M) (r : Int32) (M' : cl_M), f_X6_isEnd_16 M = some (r, M') → ∀ (H : Heap) (locs : List Loc) (ls : Array Slot), cl_H dd b M s H locs → lv_has ls 1 [] → W p l e { frames := 1, cells := 0, slots := 0, locals := 21 } s m args below meth c H locs 0 0 (cl_Zi below args s dd b r M') (F0 m 16 ls []) := by
  have hx := C.1
  have hb := C.2.1
  have hlt := C.2.2.2.2.2.2.2.2.2.2
  have hRr := C.2.2.2.2.2.2.2.2.2.1
  intro M r M' hf H locs ls hw hl
  unfold f_X6_isEnd_16 at hf
  refine lv_iconst (v := 1) hx hb dX6_isEnd_16 (by decide) ?_
  refine lv_goto (tgt := 21) hx hb dX6_isEnd_17 (by decide) ?_
  exact k_X6_isEnd_21 C M 1 _ _ hf _ _ _ hw (lv_sub hl [] rfl)
def f_X6_isEnd (M : cl_M) (t0 : Nat) : Option (Int32 × cl_M) := if (M t0 15) = 2 then f_X6_isEnd_16 M else cl_b2 (f_X6_wrong M t0 1) (fun v3 M4 => if v3 = 0 then f_X6_isEnd_21 M4 0 else f_X6_isEnd_16 M4)
set_option maxHeartbeats 4000000 in
set_option maxRecDepth 100000 in
theorem k_X6_isEnd {p : Program} {l : Launch} {e : Env} {s : State} {m : MethodId} {args : Array Value} {below : List Frame} {meth : Method} {c : Code} {dd : cl_D} {b : Nat} (C : cl_C p l s m args meth c cX6_isEnd RX6 1 (some .boolean) dd b) : ∀ (M : cl_M) (t0 : Nat) (r : Int32) (M' : cl_M), f_X6_isEnd M t0 = some (r, M') → ∀ (H : Heap) (locs : List Loc) (ls : Array Slot), cl_sh dd t0 = 6 → cl_H dd b M s H locs → lv_has ls 1 [(0, .ref (b + t0))] → W p l e { frames := 1, cells := 0, slots := 0, locals := 21 } s m args below meth c H locs 0 0 (cl_Zi below args s dd b r M') (F0 m 0 ls []) := by
  have hx := C.1
  have hb := C.2.1
  have hlt := C.2.2.2.2.2.2.2.2.2.2
  have hRr := C.2.2.2.2.2.2.2.2.2.1
  intro M t0 r M' hf H locs ls ht0 hw hl
  unfold f_X6_isEnd at hf
  refine lv_aload_n hx hb dX6_isEnd_0 rfl (lv_at hl 0 rfl) ?_
  refine fg_X6_166 C hw ht0 dX6_isEnd_1 ?_
  refine lv_iconst (v := 2) hx hb dX6_isEnd_4 (by decide) ?_
  refine lv_icmp_eq (tgt := 16) hx hb dX6_isEnd_5 (by decide) (fun c1 => ?_) (fun c1 => ?_)
  · have hf := cl_yes c1 hf
    exact k_X6_isEnd_16 C M _ _ hf _ _ _ hw (lv_sub hl [] rfl)
  · have hf := cl_no c1 hf
    refine lv_aload_n hx hb dX6_isEnd_8 rfl (lv_at hl 0 rfl) ?_
    refine lv_iconst (v := 1) hx hb dX6_isEnd_9 (by decide) ?_
    obtain ⟨v3, M4, e5, hf⟩ := cl_b2_e hf
    refine cr_Vi C hw (c_X6_wrong hlt ht0 e5) cy_X6_wrong vy_X6_wrong ml_X6_186 (cl_lt ht0 (by decide)) (cl_e6 ht0) rfl rfl (As := [.int 1]) rfl hl.1 rfl ⟨⟨Nat.le_of_ble_eq_true rfl, Nat.le_of_ble_eq_true rfl⟩, Nat.le_of_ble_eq_true rfl, Nat.le_of_ble_eq_true rfl, Nat.le_of_ble_eq_true rfl⟩ dX6_isEnd_10 (fun H locs hw => ?_)
    refine lv_if_eq (tgt := 20) hx hb dX6_isEnd_13 (by decide) (fun c6 => ?_) (fun c6 => ?_)
    · have hf := cl_yes c6 hf
      refine lv_iconst (v := 0) hx hb dX6_isEnd_20 (by decide) ?_
      exact k_X6_isEnd_21 C M4 0 _ _ hf _ _ _ hw (lv_sub hl [] rfl)
    · have hf := cl_no c6 hf
      exact k_X6_isEnd_16 C M4 _ _ hf _ _ _ hw (lv_sub hl [] rfl)
set_option maxRecDepth 100000 in
theorem c_X6_isEnd {l : Launch} {dd : cl_D} {b : Nat} (hlt : l.stackTraces = false) {M : cl_M} {t0 : Nat}  {r : Int32} {M' : cl_M} (ht0 : cl_sh dd t0 = 6) (h : f_X6_isEnd M t0 = some (r, M')) : cl_Mi l dd b yX6_isEnd cX6_isEnd 1 (some .boolean) 1 21 [.ref (b + t0)] M r M' :=
  cl_of hlt (by decide) (Nat.le_of_ble_eq_true rfl) (fun p e s m below meth c ls C hw hl => k_X6_isEnd C M t0 r M' h _ _ _ ht0 hw (lv_sub hl [0] rfl))
theorem cy_X6_isEnd : cl_cy yX6_isEnd cX6_isEnd 1 (some .boolean) 0 := ⟨in_ClothesLineModel, cd_X6_isEnd, by decide +kernel, by decide +kernel, by decide +kernel⟩
theorem vy_X6_isEnd : cl_vy yX6_isEnd := ⟨im_X6_isEnd, se_X6_isEnd⟩
def f_X6_semicolon (M : cl_M) (t0 : Nat) : Option (Int32 × cl_M) := cl_b2 (f_X6_isEnd M t0) (fun v1 M2 => if v1 = 0 then some (0, M2) else (f_X6_next M2 t0).bind (fun M5 => some (1, M5)))
set_option maxHeartbeats 4000000 in
set_option maxRecDepth 100000 in
theorem k_X6_semicolon {p : Program} {l : Launch} {e : Env} {s : State} {m : MethodId} {args : Array Value} {below : List Frame} {meth : Method} {c : Code} {dd : cl_D} {b : Nat} (C : cl_C p l s m args meth c cX6_semicolon RX6 1 (some .boolean) dd b) : ∀ (M : cl_M) (t0 : Nat) (r : Int32) (M' : cl_M), f_X6_semicolon M t0 = some (r, M') → ∀ (H : Heap) (locs : List Loc) (ls : Array Slot), cl_sh dd t0 = 6 → cl_H dd b M s H locs → lv_has ls 1 [(0, .ref (b + t0))] → W p l e { frames := 3, cells := 0, slots := 0, locals := 63 } s m args below meth c H locs 0 0 (cl_Zi below args s dd b r M') (F0 m 0 ls []) := by
  have hx := C.1
  have hb := C.2.1
  have hlt := C.2.2.2.2.2.2.2.2.2.2
  have hRr := C.2.2.2.2.2.2.2.2.2.1
  intro M t0 r M' hf H locs ls ht0 hw hl
  unfold f_X6_semicolon at hf
  refine lv_aload_n hx hb dX6_semicolon_0 rfl (lv_at hl 0 rfl) ?_
  obtain ⟨v1, M2, e3, hf⟩ := cl_b2_e hf
  refine cr_Vi C hw (c_X6_isEnd hlt ht0 e3) cy_X6_isEnd vy_X6_isEnd ml_X6_192 (cl_lt ht0 (by decide)) (cl_e6 ht0) rfl rfl (As := []) rfl hl.1 rfl ⟨⟨Nat.le_of_ble_eq_true rfl, Nat.le_of_ble_eq_true rfl⟩, Nat.le_of_ble_eq_true rfl, Nat.le_of_ble_eq_true rfl, Nat.le_of_ble_eq_true rfl⟩ dX6_semicolon_1 (fun H locs hw => ?_)
  refine lv_if_ne (tgt := 9) hx hb dX6_semicolon_4 (by decide) (fun c4 => ?_) (fun c4 => ?_)
  · have hf := cl_no c4 hf
    refine lv_aload_n hx hb dX6_semicolon_9 rfl (lv_at hl 0 rfl) ?_
    obtain ⟨M5, e6, hf⟩ := cl_bind_e hf
    refine cr_Vv C hw (c_X6_next hlt ht0 e6) cy_X6_next vy_X6_next ml_X6_189 (cl_lt ht0 (by decide)) (cl_e6 ht0) rfl rfl (As := []) rfl hl.1 rfl ⟨⟨Nat.le_of_ble_eq_true rfl, Nat.le_of_ble_eq_true rfl⟩, Nat.le_of_ble_eq_true rfl, Nat.le_of_ble_eq_true rfl, Nat.le_of_ble_eq_true rfl⟩ dX6_semicolon_10 (fun H locs hw => ?_)
    refine lv_iconst (v := 1) hx hb dX6_semicolon_13 (by decide) ?_
    obtain ⟨rfl, rfl⟩ := cl_pair hf
    exact cr_retz C hw (by decide) dX6_semicolon_14
  · have hf := cl_yes c4 hf
    refine lv_iconst (v := 0) hx hb dX6_semicolon_7 (by decide) ?_
    obtain ⟨rfl, rfl⟩ := cl_pair hf
    exact cr_retz C hw (by decide) dX6_semicolon_8
set_option maxRecDepth 100000 in
theorem c_X6_semicolon {l : Launch} {dd : cl_D} {b : Nat} (hlt : l.stackTraces = false) {M : cl_M} {t0 : Nat}  {r : Int32} {M' : cl_M} (ht0 : cl_sh dd t0 = 6) (h : f_X6_semicolon M t0 = some (r, M')) : cl_Mi l dd b yX6_semicolon cX6_semicolon 1 (some .boolean) 3 63 [.ref (b + t0)] M r M' :=
  cl_of hlt (by decide) (Nat.le_of_ble_eq_true rfl) (fun p e s m below meth c ls C hw hl => k_X6_semicolon C M t0 r M' h _ _ _ ht0 hw (lv_sub hl [0] rfl))
theorem cy_X6_semicolon : cl_cy yX6_semicolon cX6_semicolon 1 (some .boolean) 0 := ⟨in_ClothesLineModel, cd_X6_semicolon, by decide +kernel, by decide +kernel, by decide +kernel⟩
theorem vy_X6_semicolon : cl_vy yX6_semicolon := ⟨im_X6_semicolon, se_X6_semicolon⟩
def f_X6_startText (M : cl_M) (t0 : Nat) : Option (cl_M) := cl_let (cl_ms M t0 2 0) (fun M1 => cl_let (cl_ms M1 t0 3 (-1)) (fun M2 => cl_let (cl_ms M2 t0 14 0) (fun M3 => (f_X6_next M3 t0).bind (fun M4 => some M4))))
set_option maxHeartbeats 4000000 in
set_option maxRecDepth 100000 in
theorem k_X6_startText {p : Program} {l : Launch} {e : Env} {s : State} {m : MethodId} {args : Array Value} {below : List Frame} {meth : Method} {c : Code} {dd : cl_D} {b : Nat} (C : cl_C p l s m args meth c cX6_startText RX6 1 none dd b) : ∀ (M : cl_M) (t0 : Nat) (M' : cl_M), f_X6_startText M t0 = some M' → ∀ (H : Heap) (locs : List Loc) (ls : Array Slot), cl_sh dd t0 = 6 → cl_H dd b M s H locs → lv_has ls 1 [(0, .ref (b + t0))] → W p l e { frames := 3, cells := 0, slots := 0, locals := 63 } s m args below meth c H locs 0 0 (cl_Zv below args s dd b M') (F0 m 0 ls []) := by
  have hx := C.1
  have hb := C.2.1
  have hlt := C.2.2.2.2.2.2.2.2.2.2
  have hRr := C.2.2.2.2.2.2.2.2.2.1
  intro M t0 M' hf H locs ls ht0 hw hl
  unfold f_X6_startText at hf
  refine lv_aload_n hx hb dX6_startText_0 rfl (lv_at hl 0 rfl) ?_
  refine lv_iconst (v := 0) hx hb dX6_startText_1 (by decide) ?_
  obtain ⟨M1, eM1, hf⟩ := cl_let_e hf
  refine fp_X6_179 C hw ht0 eM1 dX6_startText_2 (fun H locs hw => ?_)
  refine lv_aload_n hx hb dX6_startText_5 rfl (lv_at hl 0 rfl) ?_
  refine lv_iconst (v := (-1)) hx hb dX6_startText_6 (by decide) ?_
  obtain ⟨M2, eM2, hf⟩ := cl_let_e hf
  refine fp_X6_13 C hw ht0 eM2 dX6_startText_7 (fun H locs hw => ?_)
  refine lv_aload_n hx hb dX6_startText_10 rfl (lv_at hl 0 rfl) ?_
  refine lv_iconst (v := 0) hx hb dX6_startText_11 (by decide) ?_
  obtain ⟨M3, eM3, hf⟩ := cl_let_e hf
  refine fp_X6_160 C hw ht0 eM3 dX6_startText_12 (fun H locs hw => ?_)
  refine lv_aload_n hx hb dX6_startText_15 rfl (lv_at hl 0 rfl) ?_
  obtain ⟨M4, e5, hf⟩ := cl_bind_e hf
  refine cr_Vv C hw (c_X6_next hlt ht0 e5) cy_X6_next vy_X6_next ml_X6_189 (cl_lt ht0 (by decide)) (cl_e6 ht0) rfl rfl (As := []) rfl hl.1 rfl ⟨⟨Nat.le_of_ble_eq_true rfl, Nat.le_of_ble_eq_true rfl⟩, Nat.le_of_ble_eq_true rfl, Nat.le_of_ble_eq_true rfl, Nat.le_of_ble_eq_true rfl⟩ dX6_startText_16 (fun H locs hw => ?_)
  obtain rfl := Option.some.inj hf
  exact cr_retv C hw dX6_startText_19
set_option maxRecDepth 100000 in
theorem c_X6_startText {l : Launch} {dd : cl_D} {b : Nat} (hlt : l.stackTraces = false) {M : cl_M} {t0 : Nat}  {M' : cl_M} (ht0 : cl_sh dd t0 = 6) (h : f_X6_startText M t0 = some M') : cl_Mv l dd b yX6_startText cX6_startText 1 none 3 63 [.ref (b + t0)] M M' :=
  cl_of hlt (by decide) (Nat.le_of_ble_eq_true rfl) (fun p e s m below meth c ls C hw hl => k_X6_startText C M t0 M' h _ _ _ ht0 hw (lv_sub hl [0] rfl))
theorem cy_X6_startText : cl_cy yX6_startText cX6_startText 1 none 0 := ⟨in_ClothesLineModel, cd_X6_startText, by decide +kernel, by decide +kernel, by decide +kernel⟩
theorem vy_X6_startText : cl_vy yX6_startText := ⟨im_X6_startText, se_X6_startText⟩
def f_X6_into (M : cl_M) (t0 : Nat) (a1 : Int32) (a2 : Int32) (a3 : Int32) : Option (Int32 × cl_M) := cl_b2 (f_X6_numberIn M t0 a2 a3) (fun v1 M2 => if v1 = 0 then some (0, M2) else if cl_inb a1 4 = true then cl_let (cl_ms M2 (t0 + 8) (a1).toNatClampNeg (M2 t0 17)) (fun M6 => (f_X6_next M6 t0).bind (fun M7 => some (1, M7))) else none)
set_option maxHeartbeats 4000000 in
set_option maxRecDepth 100000 in
theorem k_X6_into {p : Program} {l : Launch} {e : Env} {s : State} {m : MethodId} {args : Array Value} {below : List Frame} {meth : Method} {c : Code} {dd : cl_D} {b : Nat} (C : cl_C p l s m args meth c cX6_into RX6 4 (some .boolean) dd b) : ∀ (M : cl_M) (t0 : Nat) (a1 : Int32) (a2 : Int32) (a3 : Int32) (r : Int32) (M' : cl_M), f_X6_into M t0 a1 a2 a3 = some (r, M') → ∀ (H : Heap) (locs : List Loc) (ls : Array Slot), cl_sh dd t0 = 6 → cl_H dd b M s H locs → lv_has ls 4 [(0, .ref (b + t0)), (1, .int a1), (2, .int a2), (3, .int a3)] → W p l e { frames := 3, cells := 0, slots := 0, locals := 63 } s m args below meth c H locs 0 0 (cl_Zi below args s dd b r M') (F0 m 0 ls []) := by
  have hx := C.1
  have hb := C.2.1
  have hlt := C.2.2.2.2.2.2.2.2.2.2
  have hRr := C.2.2.2.2.2.2.2.2.2.1
  intro M t0 a1 a2 a3 r M' hf H locs ls ht0 hw hl
  unfold f_X6_into at hf
  refine lv_aload_n hx hb dX6_into_0 rfl (lv_at hl 0 rfl) ?_
  refine lv_iload_n hx hb dX6_into_1 rfl (lv_at hl 2 rfl) ?_
  refine lv_iload_n hx hb dX6_into_2 rfl (lv_at hl 3 rfl) ?_
  obtain ⟨v1, M2, e3, hf⟩ := cl_b2_e hf
  refine cr_Vi C hw (c_X6_numberIn hlt ht0 e3) cy_X6_numberIn vy_X6_numberIn ml_X6_196 (cl_lt ht0 (by decide)) (cl_e6 ht0) rfl rfl (As := [.int a2, .int a3]) rfl hl.1 rfl ⟨⟨Nat.le_of_ble_eq_true rfl, Nat.le_of_ble_eq_true rfl⟩, Nat.le_of_ble_eq_true rfl, Nat.le_of_ble_eq_true rfl, Nat.le_of_ble_eq_true rfl⟩ dX6_into_3 (fun H locs hw => ?_)
  refine lv_if_ne (tgt := 11) hx hb dX6_into_6 (by decide) (fun c4 => ?_) (fun c4 => ?_)
  · have hf := cl_no c4 hf
    refine lv_aload_n hx hb dX6_into_11 rfl (lv_at hl 0 rfl) ?_
    refine fg_X6_36 C hw ht0 dX6_into_12 ?_
    refine lv_iload_n hx hb dX6_into_15 rfl (lv_at hl 1 rfl) ?_
    refine lv_aload_n hx hb dX6_into_16 rfl (lv_at hl 0 rfl) ?_
    refine fg_X6_175 C hw ht0 dX6_into_17 ?_
    obtain ⟨q5, hf⟩ := cl_grd hf
    obtain ⟨M6, eM6, hf⟩ := cl_let_e hf
    refine cr_iast C hw (sh_6_12 ht0).1 (sh_6_12 ht0).2 q5 (k := (a1).toNatClampNeg) rfl eM6 dX6_into_20 (fun H locs hw => ?_)
    refine lv_aload_n hx hb dX6_into_21 rfl (lv_at hl 0 rfl) ?_
    obtain ⟨M7, e8, hf⟩ := cl_bind_e hf
    refine cr_Vv C hw (c_X6_next hlt ht0 e8) cy_X6_next vy_X6_next ml_X6_189 (cl_lt ht0 (by decide)) (cl_e6 ht0) rfl rfl (As := []) rfl hl.1 rfl ⟨⟨Nat.le_of_ble_eq_true rfl, Nat.le_of_ble_eq_true rfl⟩, Nat.le_of_ble_eq_true rfl, Nat.le_of_ble_eq_true rfl, Nat.le_of_ble_eq_true rfl⟩ dX6_into_22 (fun H locs hw => ?_)
    refine lv_iconst (v := 1) hx hb dX6_into_25 (by decide) ?_
    obtain ⟨rfl, rfl⟩ := cl_pair hf
    exact cr_retz C hw (by decide) dX6_into_26
  · have hf := cl_yes c4 hf
    refine lv_iconst (v := 0) hx hb dX6_into_9 (by decide) ?_
    obtain ⟨rfl, rfl⟩ := cl_pair hf
    exact cr_retz C hw (by decide) dX6_into_10
set_option maxRecDepth 100000 in
theorem c_X6_into {l : Launch} {dd : cl_D} {b : Nat} (hlt : l.stackTraces = false) {M : cl_M} {t0 : Nat} {a1 : Int32} {a2 : Int32} {a3 : Int32}  {r : Int32} {M' : cl_M} (ht0 : cl_sh dd t0 = 6) (h : f_X6_into M t0 a1 a2 a3 = some (r, M')) : cl_Mi l dd b yX6_into cX6_into 4 (some .boolean) 3 63 [.ref (b + t0), .int a1, .int a2, .int a3] M r M' :=
  cl_of hlt (by decide) (Nat.le_of_ble_eq_true rfl) (fun p e s m below meth c ls C hw hl => k_X6_into C M t0 a1 a2 a3 r M' h _ _ _ ht0 hw (lv_sub hl [0, 1, 2, 3] rfl))
theorem cy_X6_into : cl_cy yX6_into cX6_into 4 (some .boolean) 3 := ⟨in_ClothesLineModel, cd_X6_into, by decide +kernel, by decide +kernel, by decide +kernel⟩
theorem vy_X6_into : cl_vy yX6_into := ⟨im_X6_into, se_X6_into⟩
def f_X6_commandHere_159 (M : cl_M) (z0 : Int32) : Option (Int32) := some z0
set_option maxHeartbeats 4000000 in
set_option maxRecDepth 100000 in
theorem k_X6_commandHere_159 {p : Program} {l : Launch} {e : Env} {s : State} {m : MethodId} {args : Array Value} {below : List Frame} {meth : Method} {c : Code} {dd : cl_D} {b : Nat} (C : cl_C p l s m args meth c cX6_commandHere RX6 4 (some .int) dd b) : ∀ (M : cl_M) (z0 : Int32) (r : Int32), f_X6_commandHere_159 M z0 = some r → ∀ (H : Heap) (locs : List Loc) (ls : Array Slot), cl_H dd b M s H locs → lv_has ls 4 [] → W p l e { frames := 5, cells := 0, slots := 0, locals := 108 } s m args below meth c H locs 0 0 (cl_Zi below args s dd b r M) (F0 m 159 ls [.int z0]) := by
  have hx := C.1
  have hb := C.2.1
  have hlt := C.2.2.2.2.2.2.2.2.2.2
  have hRr := C.2.2.2.2.2.2.2.2.2.1
  intro M z0 r hf H locs ls hw hl
  unfold f_X6_commandHere_159 at hf
  obtain rfl := Option.some.inj hf
  exact cr_reti C hw dX6_commandHere_159
def f_X6_commandHere_139 (M : cl_M) (a1 : Int32) (a2 : Int32) (z0 : Int32) : Option (Int32) := if a1 = (-1) then if a2 = (-1) then f_X6_commandHere_159 M z0 else f_X6_commandHere_159 M a2 else f_X6_commandHere_159 M a1
set_option maxHeartbeats 4000000 in
set_option maxRecDepth 100000 in
theorem k_X6_commandHere_139 {p : Program} {l : Launch} {e : Env} {s : State} {m : MethodId} {args : Array Value} {below : List Frame} {meth : Method} {c : Code} {dd : cl_D} {b : Nat} (C : cl_C p l s m args meth c cX6_commandHere RX6 4 (some .int) dd b) : ∀ (M : cl_M) (a1 : Int32) (a2 : Int32) (z0 : Int32) (r : Int32), f_X6_commandHere_139 M a1 a2 z0 = some r → ∀ (H : Heap) (locs : List Loc) (ls : Array Slot), cl_H dd b M s H locs → lv_has ls 4 [(1, .int a1), (2, .int a2)] → W p l e { frames := 5, cells := 0, slots := 0, locals := 108 } s m args below meth c H locs 0 0 (cl_Zi below args s dd b r M) (F0 m 139 ls [.int z0]) := by
  have hx := C.1
  have hb := C.2.1
  have hlt := C.2.2.2.2.2.2.2.2.2.2
  have hRr := C.2.2.2.2.2.2.2.2.2.1
  intro M a1 a2 z0 r hf H locs ls hw hl
  unfold f_X6_commandHere_139 at hf
  refine lv_istore_n (lv' := [(3, .int z0), (1, .int a1), (2, .int a2)]) hx hb dX6_commandHere_139 rfl hl (by decide) rfl (fun ls hl => ?_)
  refine lv_iload_n hx hb dX6_commandHere_140 rfl (lv_at hl 1 rfl) ?_
  refine lv_iconst (v := (-1)) hx hb dX6_commandHere_141 (by decide) ?_
  refine lv_icmp_eq (tgt := 149) hx hb dX6_commandHere_142 (by decide) (fun c31 => ?_) (fun c31 => ?_)
  · have hf := cl_yes c31 hf
    refine lv_iload_n hx hb dX6_commandHere_149 rfl (lv_at hl 2 rfl) ?_
    refine lv_iconst (v := (-1)) hx hb dX6_commandHere_150 (by decide) ?_
    refine lv_icmp_eq (tgt := 158) hx hb dX6_commandHere_151 (by decide) (fun c32 => ?_) (fun c32 => ?_)
    · have hf := cl_yes c32 hf
      refine lv_iload_n hx hb dX6_commandHere_158 rfl (lv_at hl 0 rfl) ?_
      exact k_X6_commandHere_159 C M z0 _ hf _ _ _ hw (lv_sub hl [] rfl)
    · have hf := cl_no c32 hf
      refine lv_iload_n hx hb dX6_commandHere_154 rfl (lv_at hl 2 rfl) ?_
      refine lv_goto (tgt := 159) hx hb dX6_commandHere_155 (by decide) ?_
      exact k_X6_commandHere_159 C M a2 _ hf _ _ _ hw (lv_sub hl [] rfl)
  · have hf := cl_no c31 hf
    refine lv_iload_n hx hb dX6_commandHere_145 rfl (lv_at hl 1 rfl) ?_
    refine lv_goto (tgt := 159) hx hb dX6_commandHere_146 (by decide) ?_
    exact k_X6_commandHere_159 C M a1 _ hf _ _ _ hw (lv_sub hl [] rfl)
def f_X6_commandHere_95 (M : cl_M) (t0 : Nat) (a1 : Int32) (z0 : Int32) : Option (Int32) := (f_X6_isWord M t0 20).bind (fun v22 => if v22 = 0 then (f_X6_isWord M t0 12).bind (fun v25 => if v25 = 0 then (f_X6_isWord M t0 21).bind (fun v28 => if v28 = 0 then f_X6_commandHere_139 M a1 z0 (-1) else f_X6_commandHere_139 M a1 z0 9) else f_X6_commandHere_139 M a1 z0 8) else f_X6_commandHere_139 M a1 z0 7)
set_option maxHeartbeats 4000000 in
set_option maxRecDepth 100000 in
theorem k_X6_commandHere_95 {p : Program} {l : Launch} {e : Env} {s : State} {m : MethodId} {args : Array Value} {below : List Frame} {meth : Method} {c : Code} {dd : cl_D} {b : Nat} (C : cl_C p l s m args meth c cX6_commandHere RX6 4 (some .int) dd b) : ∀ (M : cl_M) (t0 : Nat) (a1 : Int32) (z0 : Int32) (r : Int32), f_X6_commandHere_95 M t0 a1 z0 = some r → ∀ (H : Heap) (locs : List Loc) (ls : Array Slot), cl_sh dd t0 = 6 → cl_H dd b M s H locs → lv_has ls 4 [(0, .ref (b + t0)), (1, .int a1)] → W p l e { frames := 5, cells := 0, slots := 0, locals := 108 } s m args below meth c H locs 0 0 (cl_Zi below args s dd b r M) (F0 m 95 ls [.int z0]) := by
  have hx := C.1
  have hb := C.2.1
  have hlt := C.2.2.2.2.2.2.2.2.2.2
  have hRr := C.2.2.2.2.2.2.2.2.2.1
  intro M t0 a1 z0 r hf H locs ls ht0 hw hl
  unfold f_X6_commandHere_95 at hf
  refine lv_istore_n (lv' := [(2, .int z0), (0, .ref (b + t0)), (1, .int a1)]) hx hb dX6_commandHere_95 rfl hl (by decide) rfl (fun ls hl => ?_)
  refine lv_aload_n hx hb dX6_commandHere_96 rfl (lv_at hl 1 rfl) ?_
  refine va_ldcS hx hb C.2.2.2.1 (sr_20 hRr) dX6_commandHere_97 ?_
  obtain ⟨v22, e23, hf⟩ := cl_bind_e hf
  refine cr_Vi C hw (c_X6_isWord hlt ht0 (by decide) e23) cy_X6_isWord vy_X6_isWord ml_X6_182 (cl_lt ht0 (by decide)) (cl_e6 ht0) rfl rfl (As := [.ref (dd.2.2.1 20)]) rfl hl.1 rfl ⟨⟨Nat.le_of_ble_eq_true rfl, Nat.le_of_ble_eq_true rfl⟩, Nat.le_of_ble_eq_true rfl, Nat.le_of_ble_eq_true rfl, Nat.le_of_ble_eq_true rfl⟩ dX6_commandHere_99 (fun H locs hw => ?_)
  refine lv_if_eq (tgt := 110) hx hb dX6_commandHere_102 (by decide) (fun c24 => ?_) (fun c24 => ?_)
  · have hf := cl_yes c24 hf
    refine lv_aload_n hx hb dX6_commandHere_110 rfl (lv_at hl 1 rfl) ?_
    refine va_ldcS hx hb C.2.2.2.1 (sr_12 hRr) dX6_commandHere_111 ?_
    obtain ⟨v25, e26, hf⟩ := cl_bind_e hf
    refine cr_Vi C hw (c_X6_isWord hlt ht0 (by decide) e26) cy_X6_isWord vy_X6_isWord ml_X6_182 (cl_lt ht0 (by decide)) (cl_e6 ht0) rfl rfl (As := [.ref (dd.2.2.1 12)]) rfl hl.1 rfl ⟨⟨Nat.le_of_ble_eq_true rfl, Nat.le_of_ble_eq_true rfl⟩, Nat.le_of_ble_eq_true rfl, Nat.le_of_ble_eq_true rfl, Nat.le_of_ble_eq_true rfl⟩ dX6_commandHere_113 (fun H locs hw => ?_)
    refine lv_if_eq (tgt := 124) hx hb dX6_commandHere_116 (by decide) (fun c27 => ?_) (fun c27 => ?_)
    · have hf := cl_yes c27 hf
      refine lv_aload_n hx hb dX6_commandHere_124 rfl (lv_at hl 1 rfl) ?_
      refine va_ldcS hx hb C.2.2.2.1 (sr_21 hRr) dX6_commandHere_125 ?_
      obtain ⟨v28, e29, hf⟩ := cl_bind_e hf
      refine cr_Vi C hw (c_X6_isWord hlt ht0 (by decide) e29) cy_X6_isWord vy_X6_isWord ml_X6_182 (cl_lt ht0 (by decide)) (cl_e6 ht0) rfl rfl (As := [.ref (dd.2.2.1 21)]) rfl hl.1 rfl ⟨⟨Nat.le_of_ble_eq_true rfl, Nat.le_of_ble_eq_true rfl⟩, Nat.le_of_ble_eq_true rfl, Nat.le_of_ble_eq_true rfl, Nat.le_of_ble_eq_true rfl⟩ dX6_commandHere_127 (fun H locs hw => ?_)
      refine lv_if_eq (tgt := 138) hx hb dX6_commandHere_130 (by decide) (fun c30 => ?_) (fun c30 => ?_)
      · have hf := cl_yes c30 hf
        refine lv_iconst (v := (-1)) hx hb dX6_commandHere_138 (by decide) ?_
        exact k_X6_commandHere_139 C M a1 z0 (-1) _ hf _ _ _ hw (lv_sub hl [2, 0] rfl)
      · have hf := cl_no c30 hf
        refine lv_bipush (v := 9) hx hb dX6_commandHere_133 (by decide) ?_
        refine lv_goto (tgt := 139) hx hb dX6_commandHere_135 (by decide) ?_
        exact k_X6_commandHere_139 C M a1 z0 9 _ hf _ _ _ hw (lv_sub hl [2, 0] rfl)
    · have hf := cl_no c27 hf
      refine lv_bipush (v := 8) hx hb dX6_commandHere_119 (by decide) ?_
      refine lv_goto (tgt := 139) hx hb dX6_commandHere_121 (by decide) ?_
      exact k_X6_commandHere_139 C M a1 z0 8 _ hf _ _ _ hw (lv_sub hl [2, 0] rfl)
  · have hf := cl_no c24 hf
    refine lv_bipush (v := 7) hx hb dX6_commandHere_105 (by decide) ?_
    refine lv_goto (tgt := 139) hx hb dX6_commandHere_107 (by decide) ?_
    exact k_X6_commandHere_139 C M a1 z0 7 _ hf _ _ _ hw (lv_sub hl [2, 0] rfl)
def f_X6_commandHere_40 (M : cl_M) (t0 : Nat) (z0 : Int32) : Option (Int32) := (f_X6_isWord M t0 16).bind (fun v10 => if v10 = 0 then (f_X6_isWord M t0 17).bind (fun v13 => if v13 = 0 then (f_X6_isWord M t0 18).bind (fun v16 => if v16 = 0 then (f_X6_isWord M t0 19).bind (fun v19 => if v19 = 0 then f_X6_commandHere_95 M t0 z0 (-1) else f_X6_commandHere_95 M t0 z0 6) else f_X6_commandHere_95 M t0 z0 5) else f_X6_commandHere_95 M t0 z0 4) else f_X6_commandHere_95 M t0 z0 3)
set_option maxHeartbeats 4000000 in
set_option maxRecDepth 100000 in
theorem k_X6_commandHere_40 {p : Program} {l : Launch} {e : Env} {s : State} {m : MethodId} {args : Array Value} {below : List Frame} {meth : Method} {c : Code} {dd : cl_D} {b : Nat} (C : cl_C p l s m args meth c cX6_commandHere RX6 4 (some .int) dd b) : ∀ (M : cl_M) (t0 : Nat) (z0 : Int32) (r : Int32), f_X6_commandHere_40 M t0 z0 = some r → ∀ (H : Heap) (locs : List Loc) (ls : Array Slot), cl_sh dd t0 = 6 → cl_H dd b M s H locs → lv_has ls 4 [(0, .ref (b + t0))] → W p l e { frames := 5, cells := 0, slots := 0, locals := 108 } s m args below meth c H locs 0 0 (cl_Zi below args s dd b r M) (F0 m 40 ls [.int z0]) := by
  have hx := C.1
  have hb := C.2.1
  have hlt := C.2.2.2.2.2.2.2.2.2.2
  have hRr := C.2.2.2.2.2.2.2.2.2.1
  intro M t0 z0 r hf H locs ls ht0 hw hl
  unfold f_X6_commandHere_40 at hf
  refine lv_istore_n (lv' := [(1, .int z0), (0, .ref (b + t0))]) hx hb dX6_commandHere_40 rfl hl (by decide) rfl (fun ls hl => ?_)
  refine lv_aload_n hx hb dX6_commandHere_41 rfl (lv_at hl 1 rfl) ?_
  refine va_ldcS hx hb C.2.2.2.1 (sr_16 hRr) dX6_commandHere_42 ?_
  obtain ⟨v10, e11, hf⟩ := cl_bind_e hf
  refine cr_Vi C hw (c_X6_isWord hlt ht0 (by decide) e11) cy_X6_isWord vy_X6_isWord ml_X6_182 (cl_lt ht0 (by decide)) (cl_e6 ht0) rfl rfl (As := [.ref (dd.2.2.1 16)]) rfl hl.1 rfl ⟨⟨Nat.le_of_ble_eq_true rfl, Nat.le_of_ble_eq_true rfl⟩, Nat.le_of_ble_eq_true rfl, Nat.le_of_ble_eq_true rfl, Nat.le_of_ble_eq_true rfl⟩ dX6_commandHere_44 (fun H locs hw => ?_)
  refine lv_if_eq (tgt := 54) hx hb dX6_commandHere_47 (by decide) (fun c12 => ?_) (fun c12 => ?_)
  · have hf := cl_yes c12 hf
    refine lv_aload_n hx hb dX6_commandHere_54 rfl (lv_at hl 1 rfl) ?_
    refine va_ldcS hx hb C.2.2.2.1 (sr_17 hRr) dX6_commandHere_55 ?_
    obtain ⟨v13, e14, hf⟩ := cl_bind_e hf
    refine cr_Vi C hw (c_X6_isWord hlt ht0 (by decide) e14) cy_X6_isWord vy_X6_isWord ml_X6_182 (cl_lt ht0 (by decide)) (cl_e6 ht0) rfl rfl (As := [.ref (dd.2.2.1 17)]) rfl hl.1 rfl ⟨⟨Nat.le_of_ble_eq_true rfl, Nat.le_of_ble_eq_true rfl⟩, Nat.le_of_ble_eq_true rfl, Nat.le_of_ble_eq_true rfl, Nat.le_of_ble_eq_true rfl⟩ dX6_commandHere_57 (fun H locs hw => ?_)
    refine lv_if_eq (tgt := 67) hx hb dX6_commandHere_60 (by decide) (fun c15 => ?_) (fun c15 => ?_)
    · have hf := cl_yes c15 hf
      refine lv_aload_n hx hb dX6_commandHere_67 rfl (lv_at hl 1 rfl) ?_
      refine va_ldcS hx hb C.2.2.2.1 (sr_18 hRr) dX6_commandHere_68 ?_
      obtain ⟨v16, e17, hf⟩ := cl_bind_e hf
      refine cr_Vi C hw (c_X6_isWord hlt ht0 (by decide) e17) cy_X6_isWord vy_X6_isWord ml_X6_182 (cl_lt ht0 (by decide)) (cl_e6 ht0) rfl rfl (As := [.ref (dd.2.2.1 18)]) rfl hl.1 rfl ⟨⟨Nat.le_of_ble_eq_true rfl, Nat.le_of_ble_eq_true rfl⟩, Nat.le_of_ble_eq_true rfl, Nat.le_of_ble_eq_true rfl, Nat.le_of_ble_eq_true rfl⟩ dX6_commandHere_70 (fun H locs hw => ?_)
      refine lv_if_eq (tgt := 80) hx hb dX6_commandHere_73 (by decide) (fun c18 => ?_) (fun c18 => ?_)
      · have hf := cl_yes c18 hf
        refine lv_aload_n hx hb dX6_commandHere_80 rfl (lv_at hl 1 rfl) ?_
        refine va_ldcS hx hb C.2.2.2.1 (sr_19 hRr) dX6_commandHere_81 ?_
        obtain ⟨v19, e20, hf⟩ := cl_bind_e hf
        refine cr_Vi C hw (c_X6_isWord hlt ht0 (by decide) e20) cy_X6_isWord vy_X6_isWord ml_X6_182 (cl_lt ht0 (by decide)) (cl_e6 ht0) rfl rfl (As := [.ref (dd.2.2.1 19)]) rfl hl.1 rfl ⟨⟨Nat.le_of_ble_eq_true rfl, Nat.le_of_ble_eq_true rfl⟩, Nat.le_of_ble_eq_true rfl, Nat.le_of_ble_eq_true rfl, Nat.le_of_ble_eq_true rfl⟩ dX6_commandHere_83 (fun H locs hw => ?_)
        refine lv_if_eq (tgt := 94) hx hb dX6_commandHere_86 (by decide) (fun c21 => ?_) (fun c21 => ?_)
        · have hf := cl_yes c21 hf
          refine lv_iconst (v := (-1)) hx hb dX6_commandHere_94 (by decide) ?_
          exact k_X6_commandHere_95 C M t0 z0 (-1) _ hf _ _ _ ht0 hw (lv_sub hl [1, 0] rfl)
        · have hf := cl_no c21 hf
          refine lv_bipush (v := 6) hx hb dX6_commandHere_89 (by decide) ?_
          refine lv_goto (tgt := 95) hx hb dX6_commandHere_91 (by decide) ?_
          exact k_X6_commandHere_95 C M t0 z0 6 _ hf _ _ _ ht0 hw (lv_sub hl [1, 0] rfl)
      · have hf := cl_no c18 hf
        refine lv_iconst (v := 5) hx hb dX6_commandHere_76 (by decide) ?_
        refine lv_goto (tgt := 95) hx hb dX6_commandHere_77 (by decide) ?_
        exact k_X6_commandHere_95 C M t0 z0 5 _ hf _ _ _ ht0 hw (lv_sub hl [1, 0] rfl)
    · have hf := cl_no c15 hf
      refine lv_iconst (v := 4) hx hb dX6_commandHere_63 (by decide) ?_
      refine lv_goto (tgt := 95) hx hb dX6_commandHere_64 (by decide) ?_
      exact k_X6_commandHere_95 C M t0 z0 4 _ hf _ _ _ ht0 hw (lv_sub hl [1, 0] rfl)
  · have hf := cl_no c12 hf
    refine lv_iconst (v := 3) hx hb dX6_commandHere_50 (by decide) ?_
    refine lv_goto (tgt := 95) hx hb dX6_commandHere_51 (by decide) ?_
    exact k_X6_commandHere_95 C M t0 z0 3 _ hf _ _ _ ht0 hw (lv_sub hl [1, 0] rfl)
def f_X6_commandHere (M : cl_M) (t0 : Nat) : Option (Int32) := (f_X6_isWord M t0 13).bind (fun v1 => if v1 = 0 then (f_X6_isWord M t0 14).bind (fun v4 => if v4 = 0 then (f_X6_isWord M t0 15).bind (fun v7 => if v7 = 0 then f_X6_commandHere_40 M t0 (-1) else f_X6_commandHere_40 M t0 2) else f_X6_commandHere_40 M t0 1) else f_X6_commandHere_40 M t0 0)
set_option maxHeartbeats 4000000 in
set_option maxRecDepth 100000 in
theorem k_X6_commandHere {p : Program} {l : Launch} {e : Env} {s : State} {m : MethodId} {args : Array Value} {below : List Frame} {meth : Method} {c : Code} {dd : cl_D} {b : Nat} (C : cl_C p l s m args meth c cX6_commandHere RX6 4 (some .int) dd b) : ∀ (M : cl_M) (t0 : Nat) (r : Int32), f_X6_commandHere M t0 = some r → ∀ (H : Heap) (locs : List Loc) (ls : Array Slot), cl_sh dd t0 = 6 → cl_H dd b M s H locs → lv_has ls 4 [(0, .ref (b + t0))] → W p l e { frames := 5, cells := 0, slots := 0, locals := 108 } s m args below meth c H locs 0 0 (cl_Zi below args s dd b r M) (F0 m 0 ls []) := by
  have hx := C.1
  have hb := C.2.1
  have hlt := C.2.2.2.2.2.2.2.2.2.2
  have hRr := C.2.2.2.2.2.2.2.2.2.1
  intro M t0 r hf H locs ls ht0 hw hl
  unfold f_X6_commandHere at hf
  refine lv_aload_n hx hb dX6_commandHere_0 rfl (lv_at hl 0 rfl) ?_
  refine va_ldcS hx hb C.2.2.2.1 (sr_13 hRr) dX6_commandHere_1 ?_
  obtain ⟨v1, e2, hf⟩ := cl_bind_e hf
  refine cr_Vi C hw (c_X6_isWord hlt ht0 (by decide) e2) cy_X6_isWord vy_X6_isWord ml_X6_182 (cl_lt ht0 (by decide)) (cl_e6 ht0) rfl rfl (As := [.ref (dd.2.2.1 13)]) rfl hl.1 rfl ⟨⟨Nat.le_of_ble_eq_true rfl, Nat.le_of_ble_eq_true rfl⟩, Nat.le_of_ble_eq_true rfl, Nat.le_of_ble_eq_true rfl, Nat.le_of_ble_eq_true rfl⟩ dX6_commandHere_3 (fun H locs hw => ?_)
  refine lv_if_eq (tgt := 13) hx hb dX6_commandHere_6 (by decide) (fun c3 => ?_) (fun c3 => ?_)
  · have hf := cl_yes c3 hf
    refine lv_aload_n hx hb dX6_commandHere_13 rfl (lv_at hl 0 rfl) ?_
    refine va_ldcS hx hb C.2.2.2.1 (sr_14 hRr) dX6_commandHere_14 ?_
    obtain ⟨v4, e5, hf⟩ := cl_bind_e hf
    refine cr_Vi C hw (c_X6_isWord hlt ht0 (by decide) e5) cy_X6_isWord vy_X6_isWord ml_X6_182 (cl_lt ht0 (by decide)) (cl_e6 ht0) rfl rfl (As := [.ref (dd.2.2.1 14)]) rfl hl.1 rfl ⟨⟨Nat.le_of_ble_eq_true rfl, Nat.le_of_ble_eq_true rfl⟩, Nat.le_of_ble_eq_true rfl, Nat.le_of_ble_eq_true rfl, Nat.le_of_ble_eq_true rfl⟩ dX6_commandHere_16 (fun H locs hw => ?_)
    refine lv_if_eq (tgt := 26) hx hb dX6_commandHere_19 (by decide) (fun c6 => ?_) (fun c6 => ?_)
    · have hf := cl_yes c6 hf
      refine lv_aload_n hx hb dX6_commandHere_26 rfl (lv_at hl 0 rfl) ?_
      refine va_ldcS hx hb C.2.2.2.1 (sr_15 hRr) dX6_commandHere_27 ?_
      obtain ⟨v7, e8, hf⟩ := cl_bind_e hf
      refine cr_Vi C hw (c_X6_isWord hlt ht0 (by decide) e8) cy_X6_isWord vy_X6_isWord ml_X6_182 (cl_lt ht0 (by decide)) (cl_e6 ht0) rfl rfl (As := [.ref (dd.2.2.1 15)]) rfl hl.1 rfl ⟨⟨Nat.le_of_ble_eq_true rfl, Nat.le_of_ble_eq_true rfl⟩, Nat.le_of_ble_eq_true rfl, Nat.le_of_ble_eq_true rfl, Nat.le_of_ble_eq_true rfl⟩ dX6_commandHere_29 (fun H locs hw => ?_)
      refine lv_if_eq (tgt := 39) hx hb dX6_commandHere_32 (by decide) (fun c9 => ?_) (fun c9 => ?_)
      · have hf := cl_yes c9 hf
        refine lv_iconst (v := (-1)) hx hb dX6_commandHere_39 (by decide) ?_
        exact k_X6_commandHere_40 C M t0 (-1) _ hf _ _ _ ht0 hw (lv_sub hl [0] rfl)
      · have hf := cl_no c9 hf
        refine lv_iconst (v := 2) hx hb dX6_commandHere_35 (by decide) ?_
        refine lv_goto (tgt := 40) hx hb dX6_commandHere_36 (by decide) ?_
        exact k_X6_commandHere_40 C M t0 2 _ hf _ _ _ ht0 hw (lv_sub hl [0] rfl)
    · have hf := cl_no c6 hf
      refine lv_iconst (v := 1) hx hb dX6_commandHere_22 (by decide) ?_
      refine lv_goto (tgt := 40) hx hb dX6_commandHere_23 (by decide) ?_
      exact k_X6_commandHere_40 C M t0 1 _ hf _ _ _ ht0 hw (lv_sub hl [0] rfl)
  · have hf := cl_no c3 hf
    refine lv_iconst (v := 0) hx hb dX6_commandHere_9 (by decide) ?_
    refine lv_goto (tgt := 40) hx hb dX6_commandHere_10 (by decide) ?_
    exact k_X6_commandHere_40 C M t0 0 _ hf _ _ _ ht0 hw (lv_sub hl [0] rfl)
set_option maxRecDepth 100000 in
theorem c_X6_commandHere {l : Launch} {dd : cl_D} {b : Nat} (hlt : l.stackTraces = false) {M : cl_M} {t0 : Nat}  {r : Int32} (ht0 : cl_sh dd t0 = 6) (h : f_X6_commandHere M t0 = some r) : cl_Mi l dd b yX6_commandHere cX6_commandHere 4 (some .int) 5 108 [.ref (b + t0)] M r M :=
  cl_of hlt (by decide) (Nat.le_of_ble_eq_true rfl) (fun p e s m below meth c ls C hw hl => k_X6_commandHere C M t0 r h _ _ _ ht0 hw (lv_sub hl [0] rfl))
theorem cy_X6_commandHere : cl_cy yX6_commandHere cX6_commandHere 4 (some .int) 0 := ⟨in_ClothesLineModel, cd_X6_commandHere, by decide +kernel, by decide +kernel, by decide +kernel⟩
theorem vy_X6_commandHere : cl_vy yX6_commandHere := ⟨im_X6_commandHere, se_X6_commandHere⟩
def f_X6_isFull_53 (M : cl_M) (z0 : Int32) : Option (Int32) := if cl_bz z0 = true then some z0 else none
set_option maxHeartbeats 4000000 in
set_option maxRecDepth 100000 in
theorem k_X6_isFull_53 {p : Program} {l : Launch} {e : Env} {s : State} {m : MethodId} {args : Array Value} {below : List Frame} {meth : Method} {c : Code} {dd : cl_D} {b : Nat} (C : cl_C p l s m args meth c cX6_isFull RX6 2 (some .boolean) dd b) : ∀ (M : cl_M) (z0 : Int32) (r : Int32), f_X6_isFull_53 M z0 = some r → ∀ (H : Heap) (locs : List Loc) (ls : Array Slot), cl_H dd b M s H locs → lv_has ls 2 [] → W p l e { frames := 0, cells := 0, slots := 0, locals := 0 } s m args below meth c H locs 0 0 (cl_Zi below args s dd b r M) (F0 m 53 ls [.int z0]) := by
  have hx := C.1
  have hb := C.2.1
  have hlt := C.2.2.2.2.2.2.2.2.2.2
  have hRr := C.2.2.2.2.2.2.2.2.2.1
  intro M z0 r hf H locs ls hw hl
  unfold f_X6_isFull_53 at hf
  obtain ⟨q3, hf⟩ := cl_grd hf
  obtain rfl := Option.some.inj hf
  exact cr_retz C hw q3 dX6_isFull_53
def f_X6_isFull_69 (M : cl_M) (z0 : Int32) : Option (Int32) := if cl_bz z0 = true then some z0 else none
set_option maxHeartbeats 4000000 in
set_option maxRecDepth 100000 in
theorem k_X6_isFull_69 {p : Program} {l : Launch} {e : Env} {s : State} {m : MethodId} {args : Array Value} {below : List Frame} {meth : Method} {c : Code} {dd : cl_D} {b : Nat} (C : cl_C p l s m args meth c cX6_isFull RX6 2 (some .boolean) dd b) : ∀ (M : cl_M) (z0 : Int32) (r : Int32), f_X6_isFull_69 M z0 = some r → ∀ (H : Heap) (locs : List Loc) (ls : Array Slot), cl_H dd b M s H locs → lv_has ls 2 [] → W p l e { frames := 0, cells := 0, slots := 0, locals := 0 } s m args below meth c H locs 0 0 (cl_Zi below args s dd b r M) (F0 m 69 ls [.int z0]) := by
  have hx := C.1
  have hb := C.2.1
  have hlt := C.2.2.2.2.2.2.2.2.2.2
  have hRr := C.2.2.2.2.2.2.2.2.2.1
  intro M z0 r hf H locs ls hw hl
  unfold f_X6_isFull_69 at hf
  obtain ⟨q6, hf⟩ := cl_grd hf
  obtain rfl := Option.some.inj hf
  exact cr_retz C hw q6 dX6_isFull_69
def f_X6_isFull_86 (M : cl_M) (z0 : Int32) : Option (Int32) := if cl_bz z0 = true then some z0 else none
set_option maxHeartbeats 4000000 in
set_option maxRecDepth 100000 in
theorem k_X6_isFull_86 {p : Program} {l : Launch} {e : Env} {s : State} {m : MethodId} {args : Array Value} {below : List Frame} {meth : Method} {c : Code} {dd : cl_D} {b : Nat} (C : cl_C p l s m args meth c cX6_isFull RX6 2 (some .boolean) dd b) : ∀ (M : cl_M) (z0 : Int32) (r : Int32), f_X6_isFull_86 M z0 = some r → ∀ (H : Heap) (locs : List Loc) (ls : Array Slot), cl_H dd b M s H locs → lv_has ls 2 [] → W p l e { frames := 0, cells := 0, slots := 0, locals := 0 } s m args below meth c H locs 0 0 (cl_Zi below args s dd b r M) (F0 m 86 ls [.int z0]) := by
  have hx := C.1
  have hb := C.2.1
  have hlt := C.2.2.2.2.2.2.2.2.2.2
  have hRr := C.2.2.2.2.2.2.2.2.2.1
  intro M z0 r hf H locs ls hw hl
  unfold f_X6_isFull_86 at hf
  obtain ⟨q9, hf⟩ := cl_grd hf
  obtain rfl := Option.some.inj hf
  exact cr_retz C hw q9 dX6_isFull_86
def f_X6_isFull (M : cl_M) (t0 : Nat) (a1 : Int32) : Option (Int32) := if a1 = 0 then if (M (t0 + 2) 7) = 10 then f_X6_isFull_53 M 1 else f_X6_isFull_53 M 0 else if a1 = 6 then if (M (t0 + 2) 5) = 4 then f_X6_isFull_69 M 1 else f_X6_isFull_69 M 0 else if a1 = 7 then if (M (t0 + 2) 6) = 4 then f_X6_isFull_86 M 1 else f_X6_isFull_86 M 0 else some 0
set_option maxHeartbeats 4000000 in
set_option maxRecDepth 100000 in
theorem k_X6_isFull {p : Program} {l : Launch} {e : Env} {s : State} {m : MethodId} {args : Array Value} {below : List Frame} {meth : Method} {c : Code} {dd : cl_D} {b : Nat} (C : cl_C p l s m args meth c cX6_isFull RX6 2 (some .boolean) dd b) : ∀ (M : cl_M) (t0 : Nat) (a1 : Int32) (r : Int32), f_X6_isFull M t0 a1 = some r → ∀ (H : Heap) (locs : List Loc) (ls : Array Slot), cl_sh dd t0 = 6 → cl_H dd b M s H locs → lv_has ls 2 [(0, .ref (b + t0)), (1, .int a1)] → W p l e { frames := 0, cells := 0, slots := 0, locals := 0 } s m args below meth c H locs 0 0 (cl_Zi below args s dd b r M) (F0 m 0 ls []) := by
  have hx := C.1
  have hb := C.2.1
  have hlt := C.2.2.2.2.2.2.2.2.2.2
  have hRr := C.2.2.2.2.2.2.2.2.2.1
  intro M t0 a1 r hf H locs ls ht0 hw hl
  unfold f_X6_isFull at hf
  refine lv_iload_n hx hb dX6_isFull_0 rfl (lv_at hl 1 rfl) ?_
  by_cases c1 : a1 = 0
  · have hf := cl_yes c1 hf
    refine lv_lookup (tgt := 36) (off := 35) hx hb dX6_isFull_1 (by decide) (by rw [c1]; rfl) (by decide) ?_
    refine lv_aload_n hx hb dX6_isFull_36 rfl (lv_at hl 0 rfl) ?_
    refine fg_X6_17 C hw ht0 dX6_isFull_37 ?_
    refine lv_bipush (v := 7) hx hb dX6_isFull_40 (by decide) ?_
    refine cr_iald C hw (sh_6_5 ht0).1 (sh_6_5 ht0).2 (by decide) (k := 7) rfl dX6_isFull_42 ?_
    refine lv_bipush (v := 10) hx hb dX6_isFull_43 (by decide) ?_
    refine lv_icmp_ne (tgt := 52) hx hb dX6_isFull_45 (by decide) (fun c2 => ?_) (fun c2 => ?_)
    · have hf := cl_no c2 hf
      refine lv_iconst (v := 0) hx hb dX6_isFull_52 (by decide) ?_
      exact k_X6_isFull_53 C M 0 _ hf _ _ _ hw (lv_sub hl [] rfl)
    · have hf := cl_yes c2 hf
      refine lv_iconst (v := 1) hx hb dX6_isFull_48 (by decide) ?_
      refine lv_goto (tgt := 53) hx hb dX6_isFull_49 (by decide) ?_
      exact k_X6_isFull_53 C M 1 _ hf _ _ _ hw (lv_sub hl [] rfl)
  have hf := cl_no c1 hf
  by_cases c4 : a1 = 6
  · have hf := cl_yes c4 hf
    refine lv_lookup (tgt := 54) (off := 53) hx hb dX6_isFull_1 (by decide) (by rw [c4]; rfl) (by decide) ?_
    refine lv_aload_n hx hb dX6_isFull_54 rfl (lv_at hl 0 rfl) ?_
    refine fg_X6_17 C hw ht0 dX6_isFull_55 ?_
    refine lv_iconst (v := 5) hx hb dX6_isFull_58 (by decide) ?_
    refine cr_iald C hw (sh_6_5 ht0).1 (sh_6_5 ht0).2 (by decide) (k := 5) rfl dX6_isFull_59 ?_
    refine lv_iconst (v := 4) hx hb dX6_isFull_60 (by decide) ?_
    refine lv_icmp_ne (tgt := 68) hx hb dX6_isFull_61 (by decide) (fun c5 => ?_) (fun c5 => ?_)
    · have hf := cl_no c5 hf
      refine lv_iconst (v := 0) hx hb dX6_isFull_68 (by decide) ?_
      exact k_X6_isFull_69 C M 0 _ hf _ _ _ hw (lv_sub hl [] rfl)
    · have hf := cl_yes c5 hf
      refine lv_iconst (v := 1) hx hb dX6_isFull_64 (by decide) ?_
      refine lv_goto (tgt := 69) hx hb dX6_isFull_65 (by decide) ?_
      exact k_X6_isFull_69 C M 1 _ hf _ _ _ hw (lv_sub hl [] rfl)
  have hf := cl_no c4 hf
  by_cases c7 : a1 = 7
  · have hf := cl_yes c7 hf
    refine lv_lookup (tgt := 70) (off := 69) hx hb dX6_isFull_1 (by decide) (by rw [c7]; rfl) (by decide) ?_
    refine lv_aload_n hx hb dX6_isFull_70 rfl (lv_at hl 0 rfl) ?_
    refine fg_X6_17 C hw ht0 dX6_isFull_71 ?_
    refine lv_bipush (v := 6) hx hb dX6_isFull_74 (by decide) ?_
    refine cr_iald C hw (sh_6_5 ht0).1 (sh_6_5 ht0).2 (by decide) (k := 6) rfl dX6_isFull_76 ?_
    refine lv_iconst (v := 4) hx hb dX6_isFull_77 (by decide) ?_
    refine lv_icmp_ne (tgt := 85) hx hb dX6_isFull_78 (by decide) (fun c8 => ?_) (fun c8 => ?_)
    · have hf := cl_no c8 hf
      refine lv_iconst (v := 0) hx hb dX6_isFull_85 (by decide) ?_
      exact k_X6_isFull_86 C M 0 _ hf _ _ _ hw (lv_sub hl [] rfl)
    · have hf := cl_yes c8 hf
      refine lv_iconst (v := 1) hx hb dX6_isFull_81 (by decide) ?_
      refine lv_goto (tgt := 86) hx hb dX6_isFull_82 (by decide) ?_
      exact k_X6_isFull_86 C M 1 _ hf _ _ _ hw (lv_sub hl [] rfl)
  have hf := cl_no c7 hf
  refine lv_lookup (tgt := 87) (off := 86) hx hb dX6_isFull_1 (by decide) (by rw [lv_osw c1 (by decide), lv_osw c4 (by decide), lv_osw c7 (by decide)]; rfl) (by decide) ?_
  refine lv_iconst (v := 0) hx hb dX6_isFull_87 (by decide) ?_
  obtain rfl := Option.some.inj hf
  exact cr_retz C hw (by decide) dX6_isFull_88
set_option maxRecDepth 100000 in
theorem c_X6_isFull {l : Launch} {dd : cl_D} {b : Nat} (hlt : l.stackTraces = false) {M : cl_M} {t0 : Nat} {a1 : Int32}  {r : Int32} (ht0 : cl_sh dd t0 = 6) (h : f_X6_isFull M t0 a1 = some r) : cl_Mi l dd b yX6_isFull cX6_isFull 2 (some .boolean) 0 0 [.ref (b + t0), .int a1] M r M :=
  cl_of hlt (by decide) (Nat.le_of_ble_eq_true rfl) (fun p e s m below meth c ls C hw hl => k_X6_isFull C M t0 a1 r h _ _ _ ht0 hw (lv_sub hl [0, 1] rfl))
theorem cy_X6_isFull : cl_cy yX6_isFull cX6_isFull 2 (some .boolean) 1 := ⟨in_ClothesLineModel, cd_X6_isFull, by decide +kernel, by decide +kernel, by decide +kernel⟩
theorem vy_X6_isFull : cl_vy yX6_isFull := ⟨im_X6_isFull, se_X6_isFull⟩
def f_X6_garmentInto (M : cl_M) (t0 : Nat) (a1 : Int32) : Option (Int32 × cl_M) := cl_b2 (f_X6_into M t0 a1 0 ((M (t0 + 2) 7) - 1)) (fun v1 M2 => if cl_bz v1 = true then some (v1, M2) else none)
set_option maxHeartbeats 4000000 in
set_option maxRecDepth 100000 in
theorem k_X6_garmentInto {p : Program} {l : Launch} {e : Env} {s : State} {m : MethodId} {args : Array Value} {below : List Frame} {meth : Method} {c : Code} {dd : cl_D} {b : Nat} (C : cl_C p l s m args meth c cX6_garmentInto RX6 2 (some .boolean) dd b) : ∀ (M : cl_M) (t0 : Nat) (a1 : Int32) (r : Int32) (M' : cl_M), f_X6_garmentInto M t0 a1 = some (r, M') → ∀ (H : Heap) (locs : List Loc) (ls : Array Slot), cl_sh dd t0 = 6 → cl_H dd b M s H locs → lv_has ls 2 [(0, .ref (b + t0)), (1, .int a1)] → W p l e { frames := 4, cells := 0, slots := 0, locals := 86 } s m args below meth c H locs 0 0 (cl_Zi below args s dd b r M') (F0 m 0 ls []) := by
  have hx := C.1
  have hb := C.2.1
  have hlt := C.2.2.2.2.2.2.2.2.2.2
  have hRr := C.2.2.2.2.2.2.2.2.2.1
  intro M t0 a1 r M' hf H locs ls ht0 hw hl
  unfold f_X6_garmentInto at hf
  refine lv_aload_n hx hb dX6_garmentInto_0 rfl (lv_at hl 0 rfl) ?_
  refine lv_iload_n hx hb dX6_garmentInto_1 rfl (lv_at hl 1 rfl) ?_
  refine lv_iconst (v := 0) hx hb dX6_garmentInto_2 (by decide) ?_
  refine lv_aload_n hx hb dX6_garmentInto_3 rfl (lv_at hl 0 rfl) ?_
  refine fg_X6_17 C hw ht0 dX6_garmentInto_4 ?_
  refine lv_bipush (v := 7) hx hb dX6_garmentInto_7 (by decide) ?_
  refine cr_iald C hw (sh_6_5 ht0).1 (sh_6_5 ht0).2 (by decide) (k := 7) rfl dX6_garmentInto_9 ?_
  refine lv_iconst (v := 1) hx hb dX6_garmentInto_10 (by decide) ?_
  refine lv_isub hx hb dX6_garmentInto_11 ?_
  obtain ⟨v1, M2, e3, hf⟩ := cl_b2_e hf
  refine cr_Vi C hw (c_X6_into hlt ht0 e3) cy_X6_into vy_X6_into ml_X6_204 (cl_lt ht0 (by decide)) (cl_e6 ht0) rfl rfl (As := [.int a1, .int 0, .int ((M (t0 + 2) 7) - 1)]) rfl hl.1 rfl ⟨⟨Nat.le_of_ble_eq_true rfl, Nat.le_of_ble_eq_true rfl⟩, Nat.le_of_ble_eq_true rfl, Nat.le_of_ble_eq_true rfl, Nat.le_of_ble_eq_true rfl⟩ dX6_garmentInto_12 (fun H locs hw => ?_)
  obtain ⟨q4, hf⟩ := cl_grd hf
  obtain ⟨rfl, rfl⟩ := cl_pair hf
  exact cr_retz C hw q4 dX6_garmentInto_15
set_option maxRecDepth 100000 in
theorem c_X6_garmentInto {l : Launch} {dd : cl_D} {b : Nat} (hlt : l.stackTraces = false) {M : cl_M} {t0 : Nat} {a1 : Int32}  {r : Int32} {M' : cl_M} (ht0 : cl_sh dd t0 = 6) (h : f_X6_garmentInto M t0 a1 = some (r, M')) : cl_Mi l dd b yX6_garmentInto cX6_garmentInto 2 (some .boolean) 4 86 [.ref (b + t0), .int a1] M r M' :=
  cl_of hlt (by decide) (Nat.le_of_ble_eq_true rfl) (fun p e s m below meth c ls C hw hl => k_X6_garmentInto C M t0 a1 r M' h _ _ _ ht0 hw (lv_sub hl [0, 1] rfl))
theorem cy_X6_garmentInto : cl_cy yX6_garmentInto cX6_garmentInto 2 (some .boolean) 1 := ⟨in_ClothesLineModel, cd_X6_garmentInto, by decide +kernel, by decide +kernel, by decide +kernel⟩
theorem vy_X6_garmentInto : cl_vy yX6_garmentInto := ⟨im_X6_garmentInto, se_X6_garmentInto⟩
def f_X6_argumentsText_110 (M : cl_M) (z0 : Int32) : Option (Int32 × cl_M) := if cl_bz z0 = true then some (z0, M) else none
set_option maxHeartbeats 4000000 in
set_option maxRecDepth 100000 in
theorem k_X6_argumentsText_110 {p : Program} {l : Launch} {e : Env} {s : State} {m : MethodId} {args : Array Value} {below : List Frame} {meth : Method} {c : Code} {dd : cl_D} {b : Nat} (C : cl_C p l s m args meth c cX6_argumentsText RX6 2 (some .boolean) dd b) : ∀ (M : cl_M) (z0 : Int32) (r : Int32) (M' : cl_M), f_X6_argumentsText_110 M z0 = some (r, M') → ∀ (H : Heap) (locs : List Loc) (ls : Array Slot), cl_H dd b M s H locs → lv_has ls 2 [] → W p l e { frames := 5, cells := 0, slots := 0, locals := 107 } s m args below meth c H locs 0 0 (cl_Zi below args s dd b r M') (F0 m 110 ls [.int z0]) := by
  have hx := C.1
  have hb := C.2.1
  have hlt := C.2.2.2.2.2.2.2.2.2.2
  have hRr := C.2.2.2.2.2.2.2.2.2.1
  intro M z0 r M' hf H locs ls hw hl
  unfold f_X6_argumentsText_110 at hf
  obtain ⟨q6, hf⟩ := cl_grd hf
  obtain ⟨rfl, rfl⟩ := cl_pair hf
  exact cr_retz C hw q6 dX6_argumentsText_110
def f_X6_argumentsText_155 (M : cl_M) (z0 : Int32) : Option (Int32 × cl_M) := if cl_bz z0 = true then some (z0, M) else none
set_option maxHeartbeats 4000000 in
set_option maxRecDepth 100000 in
theorem k_X6_argumentsText_155 {p : Program} {l : Launch} {e : Env} {s : State} {m : MethodId} {args : Array Value} {below : List Frame} {meth : Method} {c : Code} {dd : cl_D} {b : Nat} (C : cl_C p l s m args meth c cX6_argumentsText RX6 2 (some .boolean) dd b) : ∀ (M : cl_M) (z0 : Int32) (r : Int32) (M' : cl_M), f_X6_argumentsText_155 M z0 = some (r, M') → ∀ (H : Heap) (locs : List Loc) (ls : Array Slot), cl_H dd b M s H locs → lv_has ls 2 [] → W p l e { frames := 5, cells := 0, slots := 0, locals := 107 } s m args below meth c H locs 0 0 (cl_Zi below args s dd b r M') (F0 m 155 ls [.int z0]) := by
  have hx := C.1
  have hb := C.2.1
  have hlt := C.2.2.2.2.2.2.2.2.2.2
  have hRr := C.2.2.2.2.2.2.2.2.2.1
  intro M z0 r M' hf H locs ls hw hl
  unfold f_X6_argumentsText_155 at hf
  obtain ⟨q24, hf⟩ := cl_grd hf
  obtain ⟨rfl, rfl⟩ := cl_pair hf
  exact cr_retz C hw q24 dX6_argumentsText_155
def f_X6_argumentsText_300 (M : cl_M) (t0 : Nat) : Option (Int32 × cl_M) := cl_b2 (f_X6_garmentInto M t0 0) (fun v38 M39 => if cl_bz v38 = true then some (v38, M39) else none)
set_option maxHeartbeats 4000000 in
set_option maxRecDepth 100000 in
theorem k_X6_argumentsText_300 {p : Program} {l : Launch} {e : Env} {s : State} {m : MethodId} {args : Array Value} {below : List Frame} {meth : Method} {c : Code} {dd : cl_D} {b : Nat} (C : cl_C p l s m args meth c cX6_argumentsText RX6 2 (some .boolean) dd b) : ∀ (M : cl_M) (t0 : Nat) (r : Int32) (M' : cl_M), f_X6_argumentsText_300 M t0 = some (r, M') → ∀ (H : Heap) (locs : List Loc) (ls : Array Slot), cl_sh dd t0 = 6 → cl_H dd b M s H locs → lv_has ls 2 [(0, .ref (b + t0))] → W p l e { frames := 5, cells := 0, slots := 0, locals := 107 } s m args below meth c H locs 0 0 (cl_Zi below args s dd b r M') (F0 m 300 ls []) := by
  have hx := C.1
  have hb := C.2.1
  have hlt := C.2.2.2.2.2.2.2.2.2.2
  have hRr := C.2.2.2.2.2.2.2.2.2.1
  intro M t0 r M' hf H locs ls ht0 hw hl
  unfold f_X6_argumentsText_300 at hf
  refine lv_aload_n hx hb dX6_argumentsText_300 rfl (lv_at hl 0 rfl) ?_
  refine lv_iconst (v := 0) hx hb dX6_argumentsText_301 (by decide) ?_
  obtain ⟨v38, M39, e40, hf⟩ := cl_b2_e hf
  refine cr_Vi C hw (c_X6_garmentInto hlt ht0 e40) cy_X6_garmentInto vy_X6_garmentInto ml_X6_242 (cl_lt ht0 (by decide)) (cl_e6 ht0) rfl rfl (As := [.int 0]) rfl hl.1 rfl ⟨⟨Nat.le_of_ble_eq_true rfl, Nat.le_of_ble_eq_true rfl⟩, Nat.le_of_ble_eq_true rfl, Nat.le_of_ble_eq_true rfl, Nat.le_of_ble_eq_true rfl⟩ dX6_argumentsText_302 (fun H locs hw => ?_)
  obtain ⟨q41, hf⟩ := cl_grd hf
  obtain ⟨rfl, rfl⟩ := cl_pair hf
  exact cr_retz C hw q41 dX6_argumentsText_305
def f_X6_argumentsText_180 (M : cl_M) (z0 : Int32) : Option (Int32 × cl_M) := if cl_bz z0 = true then some (z0, M) else none
set_option maxHeartbeats 4000000 in
set_option maxRecDepth 100000 in
theorem k_X6_argumentsText_180 {p : Program} {l : Launch} {e : Env} {s : State} {m : MethodId} {args : Array Value} {below : List Frame} {meth : Method} {c : Code} {dd : cl_D} {b : Nat} (C : cl_C p l s m args meth c cX6_argumentsText RX6 2 (some .boolean) dd b) : ∀ (M : cl_M) (z0 : Int32) (r : Int32) (M' : cl_M), f_X6_argumentsText_180 M z0 = some (r, M') → ∀ (H : Heap) (locs : List Loc) (ls : Array Slot), cl_H dd b M s H locs → lv_has ls 2 [] → W p l e { frames := 5, cells := 0, slots := 0, locals := 107 } s m args below meth c H locs 0 0 (cl_Zi below args s dd b r M') (F0 m 180 ls [.int z0]) := by
  have hx := C.1
  have hb := C.2.1
  have hlt := C.2.2.2.2.2.2.2.2.2.2
  have hRr := C.2.2.2.2.2.2.2.2.2.1
  intro M z0 r M' hf H locs ls hw hl
  unfold f_X6_argumentsText_180 at hf
  obtain ⟨q49, hf⟩ := cl_grd hf
  obtain ⟨rfl, rfl⟩ := cl_pair hf
  exact cr_retz C hw q49 dX6_argumentsText_180
def f_X6_argumentsText_221 (M : cl_M) (z0 : Int32) : Option (Int32 × cl_M) := if cl_bz z0 = true then some (z0, M) else none
set_option maxHeartbeats 4000000 in
set_option maxRecDepth 100000 in
theorem k_X6_argumentsText_221 {p : Program} {l : Launch} {e : Env} {s : State} {m : MethodId} {args : Array Value} {below : List Frame} {meth : Method} {c : Code} {dd : cl_D} {b : Nat} (C : cl_C p l s m args meth c cX6_argumentsText RX6 2 (some .boolean) dd b) : ∀ (M : cl_M) (z0 : Int32) (r : Int32) (M' : cl_M), f_X6_argumentsText_221 M z0 = some (r, M') → ∀ (H : Heap) (locs : List Loc) (ls : Array Slot), cl_H dd b M s H locs → lv_has ls 2 [] → W p l e { frames := 5, cells := 0, slots := 0, locals := 107 } s m args below meth c H locs 0 0 (cl_Zi below args s dd b r M') (F0 m 221 ls [.int z0]) := by
  have hx := C.1
  have hb := C.2.1
  have hlt := C.2.2.2.2.2.2.2.2.2.2
  have hRr := C.2.2.2.2.2.2.2.2.2.1
  intro M z0 r M' hf H locs ls hw hl
  unfold f_X6_argumentsText_221 at hf
  obtain ⟨q59, hf⟩ := cl_grd hf
  obtain ⟨rfl, rfl⟩ := cl_pair hf
  exact cr_retz C hw q59 dX6_argumentsText_221
def f_X6_argumentsText_256 (M : cl_M) (z0 : Int32) : Option (Int32 × cl_M) := if cl_bz z0 = true then some (z0, M) else none
set_option maxHeartbeats 4000000 in
set_option maxRecDepth 100000 in
theorem k_X6_argumentsText_256 {p : Program} {l : Launch} {e : Env} {s : State} {m : MethodId} {args : Array Value} {below : List Frame} {meth : Method} {c : Code} {dd : cl_D} {b : Nat} (C : cl_C p l s m args meth c cX6_argumentsText RX6 2 (some .boolean) dd b) : ∀ (M : cl_M) (z0 : Int32) (r : Int32) (M' : cl_M), f_X6_argumentsText_256 M z0 = some (r, M') → ∀ (H : Heap) (locs : List Loc) (ls : Array Slot), cl_H dd b M s H locs → lv_has ls 2 [] → W p l e { frames := 5, cells := 0, slots := 0, locals := 107 } s m args below meth c H locs 0 0 (cl_Zi below args s dd b r M') (F0 m 256 ls [.int z0]) := by
  have hx := C.1
  have hb := C.2.1
  have hlt := C.2.2.2.2.2.2.2.2.2.2
  have hRr := C.2.2.2.2.2.2.2.2.2.1
  intro M z0 r M' hf H locs ls hw hl
  unfold f_X6_argumentsText_256 at hf
  obtain ⟨q73, hf⟩ := cl_grd hf
  obtain ⟨rfl, rfl⟩ := cl_pair hf
  exact cr_retz C hw q73 dX6_argumentsText_256
def f_X6_argumentsText_289 (M : cl_M) (z0 : Int32) : Option (Int32 × cl_M) := if cl_bz z0 = true then some (z0, M) else none
set_option maxHeartbeats 4000000 in
set_option maxRecDepth 100000 in
theorem k_X6_argumentsText_289 {p : Program} {l : Launch} {e : Env} {s : State} {m : MethodId} {args : Array Value} {below : List Frame} {meth : Method} {c : Code} {dd : cl_D} {b : Nat} (C : cl_C p l s m args meth c cX6_argumentsText RX6 2 (some .boolean) dd b) : ∀ (M : cl_M) (z0 : Int32) (r : Int32) (M' : cl_M), f_X6_argumentsText_289 M z0 = some (r, M') → ∀ (H : Heap) (locs : List Loc) (ls : Array Slot), cl_H dd b M s H locs → lv_has ls 2 [] → W p l e { frames := 5, cells := 0, slots := 0, locals := 107 } s m args below meth c H locs 0 0 (cl_Zi below args s dd b r M') (F0 m 289 ls [.int z0]) := by
  have hx := C.1
  have hb := C.2.1
  have hlt := C.2.2.2.2.2.2.2.2.2.2
  have hRr := C.2.2.2.2.2.2.2.2.2.1
  intro M z0 r M' hf H locs ls hw hl
  unfold f_X6_argumentsText_289 at hf
  obtain ⟨q83, hf⟩ := cl_grd hf
  obtain ⟨rfl, rfl⟩ := cl_pair hf
  exact cr_retz C hw q83 dX6_argumentsText_289
def f_X6_argumentsText (M : cl_M) (t0 : Nat) (a1 : Int32) : Option (Int32 × cl_M) := if a1 = 0 then cl_b2 (f_X6_into M t0 0 1 6) (fun v2 M3 => if v2 = 0 then f_X6_argumentsText_110 M3 0 else cl_b2 (f_X6_into M3 t0 1 1 99) (fun v7 M8 => if v7 = 0 then f_X6_argumentsText_110 M8 0 else cl_b2 (f_X6_into M8 t0 2 1 999) (fun v11 M12 => if v11 = 0 then f_X6_argumentsText_110 M12 0 else cl_b2 (f_X6_into M12 t0 3 0 (M12 (t0 + 8) 2)) (fun v15 M16 => if v15 = 0 then f_X6_argumentsText_110 M16 0 else f_X6_argumentsText_110 M16 1)))) else if a1 = 1 then cl_b2 (f_X6_garmentInto M t0 0) (fun v20 M21 => if v20 = 0 then f_X6_argumentsText_155 M21 0 else cl_b2 (f_X6_into M21 t0 1 0 23) (fun v25 M26 => if v25 = 0 then f_X6_argumentsText_155 M26 0 else cl_b2 (f_X6_into M26 t0 2 0 4) (fun v29 M30 => if v29 = 0 then f_X6_argumentsText_155 M30 0 else cl_b2 (f_X6_into M30 t0 3 0 4) (fun v33 M34 => if v33 = 0 then f_X6_argumentsText_155 M34 0 else f_X6_argumentsText_155 M34 1)))) else if a1 = 2 then f_X6_argumentsText_300 M t0 else if a1 = 3 then f_X6_argumentsText_300 M t0 else if a1 = 4 then f_X6_argumentsText_300 M t0 else if a1 = 5 then cl_b2 (f_X6_garmentInto M t0 0) (fun v45 M46 => if v45 = 0 then f_X6_argumentsText_180 M46 0 else cl_b2 (f_X6_into M46 t0 1 0 23) (fun v50 M51 => if v50 = 0 then f_X6_argumentsText_180 M51 0 else f_X6_argumentsText_180 M51 1)) else if a1 = 6 then cl_b2 (f_X6_into M t0 0 0 9999) (fun v55 M56 => if v55 = 0 then f_X6_argumentsText_221 M56 0 else cl_b2 (f_X6_into M56 t0 1 1 200) (fun v60 M61 => if v60 = 0 then f_X6_argumentsText_221 M61 0 else cl_b2 (f_X6_into M61 t0 2 1 20) (fun v64 M65 => if v64 = 0 then f_X6_argumentsText_221 M65 0 else f_X6_argumentsText_221 M65 1))) else if a1 = 7 then cl_b2 (f_X6_into M t0 0 0 9999) (fun v69 M70 => if v69 = 0 then f_X6_argumentsText_256 M70 0 else cl_b2 (f_X6_into M70 t0 1 (M70 (t0 + 8) 0) 9999) (fun v74 M75 => if v74 = 0 then f_X6_argumentsText_256 M75 0 else f_X6_argumentsText_256 M75 1)) else if a1 = 8 then cl_b2 (f_X6_into M t0 0 0 ((M (t0 + 2) 4) - 1)) (fun v79 M80 => if v79 = 0 then f_X6_argumentsText_289 M80 0 else cl_b2 (f_X6_into M80 t0 1 0 5) (fun v84 M85 => if v84 = 0 then f_X6_argumentsText_289 M85 0 else f_X6_argumentsText_289 M85 1)) else if a1 = 9 then cl_b2 (f_X6_into M t0 0 1 200) (fun v89 M90 => if cl_bz v89 = true then some (v89, M90) else none) else f_X6_argumentsText_300 M t0
set_option maxHeartbeats 4000000 in
set_option maxRecDepth 100000 in
theorem k_X6_argumentsText {p : Program} {l : Launch} {e : Env} {s : State} {m : MethodId} {args : Array Value} {below : List Frame} {meth : Method} {c : Code} {dd : cl_D} {b : Nat} (C : cl_C p l s m args meth c cX6_argumentsText RX6 2 (some .boolean) dd b) : ∀ (M : cl_M) (t0 : Nat) (a1 : Int32) (r : Int32) (M' : cl_M), f_X6_argumentsText M t0 a1 = some (r, M') → ∀ (H : Heap) (locs : List Loc) (ls : Array Slot), cl_sh dd t0 = 6 → cl_H dd b M s H locs → lv_has ls 2 [(0, .ref (b + t0)), (1, .int a1)] → W p l e { frames := 5, cells := 0, slots := 0, locals := 107 } s m args below meth c H locs 0 0 (cl_Zi below args s dd b r M') (F0 m 0 ls []) := by
  have hx := C.1
  have hb := C.2.1
  have hlt := C.2.2.2.2.2.2.2.2.2.2
  have hRr := C.2.2.2.2.2.2.2.2.2.1
  intro M t0 a1 r M' hf H locs ls ht0 hw hl
  unfold f_X6_argumentsText at hf
  refine lv_iload_n hx hb dX6_argumentsText_0 rfl (lv_at hl 1 rfl) ?_
  by_cases c1 : a1 = 0
  · have hf := cl_yes c1 hf
    refine lv_tableIn (tgt := 56) (off := 55) hx hb dX6_argumentsText_1 (by rw [c1]; decide) (by rw [c1]; decide) (by rw [c1]; rfl) (by decide) ?_
    refine lv_aload_n hx hb dX6_argumentsText_56 rfl (lv_at hl 0 rfl) ?_
    refine lv_iconst (v := 0) hx hb dX6_argumentsText_57 (by decide) ?_
    refine lv_iconst (v := 1) hx hb dX6_argumentsText_58 (by decide) ?_
    refine lv_bipush (v := 6) hx hb dX6_argumentsText_59 (by decide) ?_
    obtain ⟨v2, M3, e4, hf⟩ := cl_b2_e hf
    refine cr_Vi C hw (c_X6_into hlt ht0 e4) cy_X6_into vy_X6_into ml_X6_204 (cl_lt ht0 (by decide)) (cl_e6 ht0) rfl rfl (As := [.int 0, .int 1, .int 6]) rfl hl.1 rfl ⟨⟨Nat.le_of_ble_eq_true rfl, Nat.le_of_ble_eq_true rfl⟩, Nat.le_of_ble_eq_true rfl, Nat.le_of_ble_eq_true rfl, Nat.le_of_ble_eq_true rfl⟩ dX6_argumentsText_61 (fun H locs hw => ?_)
    refine lv_if_eq (tgt := 109) hx hb dX6_argumentsText_64 (by decide) (fun c5 => ?_) (fun c5 => ?_)
    · have hf := cl_yes c5 hf
      refine lv_iconst (v := 0) hx hb dX6_argumentsText_109 (by decide) ?_
      exact k_X6_argumentsText_110 C M3 0 _ _ hf _ _ _ hw (lv_sub hl [] rfl)
    · have hf := cl_no c5 hf
      refine lv_aload_n hx hb dX6_argumentsText_67 rfl (lv_at hl 0 rfl) ?_
      refine lv_iconst (v := 1) hx hb dX6_argumentsText_68 (by decide) ?_
      refine lv_iconst (v := 1) hx hb dX6_argumentsText_69 (by decide) ?_
      refine lv_bipush (v := 99) hx hb dX6_argumentsText_70 (by decide) ?_
      obtain ⟨v7, M8, e9, hf⟩ := cl_b2_e hf
      refine cr_Vi C hw (c_X6_into hlt ht0 e9) cy_X6_into vy_X6_into ml_X6_204 (cl_lt ht0 (by decide)) (cl_e6 ht0) rfl rfl (As := [.int 1, .int 1, .int 99]) rfl hl.1 rfl ⟨⟨Nat.le_of_ble_eq_true rfl, Nat.le_of_ble_eq_true rfl⟩, Nat.le_of_ble_eq_true rfl, Nat.le_of_ble_eq_true rfl, Nat.le_of_ble_eq_true rfl⟩ dX6_argumentsText_72 (fun H locs hw => ?_)
      refine lv_if_eq (tgt := 109) hx hb dX6_argumentsText_75 (by decide) (fun c10 => ?_) (fun c10 => ?_)
      · have hf := cl_yes c10 hf
        refine lv_iconst (v := 0) hx hb dX6_argumentsText_109 (by decide) ?_
        exact k_X6_argumentsText_110 C M8 0 _ _ hf _ _ _ hw (lv_sub hl [] rfl)
      · have hf := cl_no c10 hf
        refine lv_aload_n hx hb dX6_argumentsText_78 rfl (lv_at hl 0 rfl) ?_
        refine lv_iconst (v := 2) hx hb dX6_argumentsText_79 (by decide) ?_
        refine lv_iconst (v := 1) hx hb dX6_argumentsText_80 (by decide) ?_
        refine lv_sipush (v := 999) hx hb dX6_argumentsText_81 (by decide) ?_
        obtain ⟨v11, M12, e13, hf⟩ := cl_b2_e hf
        refine cr_Vi C hw (c_X6_into hlt ht0 e13) cy_X6_into vy_X6_into ml_X6_204 (cl_lt ht0 (by decide)) (cl_e6 ht0) rfl rfl (As := [.int 2, .int 1, .int 999]) rfl hl.1 rfl ⟨⟨Nat.le_of_ble_eq_true rfl, Nat.le_of_ble_eq_true rfl⟩, Nat.le_of_ble_eq_true rfl, Nat.le_of_ble_eq_true rfl, Nat.le_of_ble_eq_true rfl⟩ dX6_argumentsText_84 (fun H locs hw => ?_)
        refine lv_if_eq (tgt := 109) hx hb dX6_argumentsText_87 (by decide) (fun c14 => ?_) (fun c14 => ?_)
        · have hf := cl_yes c14 hf
          refine lv_iconst (v := 0) hx hb dX6_argumentsText_109 (by decide) ?_
          exact k_X6_argumentsText_110 C M12 0 _ _ hf _ _ _ hw (lv_sub hl [] rfl)
        · have hf := cl_no c14 hf
          refine lv_aload_n hx hb dX6_argumentsText_90 rfl (lv_at hl 0 rfl) ?_
          refine lv_iconst (v := 3) hx hb dX6_argumentsText_91 (by decide) ?_
          refine lv_iconst (v := 0) hx hb dX6_argumentsText_92 (by decide) ?_
          refine lv_aload_n hx hb dX6_argumentsText_93 rfl (lv_at hl 0 rfl) ?_
          refine fg_X6_36 C hw ht0 dX6_argumentsText_94 ?_
          refine lv_iconst (v := 2) hx hb dX6_argumentsText_97 (by decide) ?_
          refine cr_iald C hw (sh_6_12 ht0).1 (sh_6_12 ht0).2 (by decide) (k := 2) rfl dX6_argumentsText_98 ?_
          obtain ⟨v15, M16, e17, hf⟩ := cl_b2_e hf
          refine cr_Vi C hw (c_X6_into hlt ht0 e17) cy_X6_into vy_X6_into ml_X6_204 (cl_lt ht0 (by decide)) (cl_e6 ht0) rfl rfl (As := [.int 3, .int 0, .int (M12 (t0 + 8) 2)]) rfl hl.1 rfl ⟨⟨Nat.le_of_ble_eq_true rfl, Nat.le_of_ble_eq_true rfl⟩, Nat.le_of_ble_eq_true rfl, Nat.le_of_ble_eq_true rfl, Nat.le_of_ble_eq_true rfl⟩ dX6_argumentsText_99 (fun H locs hw => ?_)
          refine lv_if_eq (tgt := 109) hx hb dX6_argumentsText_102 (by decide) (fun c18 => ?_) (fun c18 => ?_)
          · have hf := cl_yes c18 hf
            refine lv_iconst (v := 0) hx hb dX6_argumentsText_109 (by decide) ?_
            exact k_X6_argumentsText_110 C M16 0 _ _ hf _ _ _ hw (lv_sub hl [] rfl)
          · have hf := cl_no c18 hf
            refine lv_iconst (v := 1) hx hb dX6_argumentsText_105 (by decide) ?_
            refine lv_goto (tgt := 110) hx hb dX6_argumentsText_106 (by decide) ?_
            exact k_X6_argumentsText_110 C M16 1 _ _ hf _ _ _ hw (lv_sub hl [] rfl)
  have hf := cl_no c1 hf
  by_cases c19 : a1 = 1
  · have hf := cl_yes c19 hf
    refine lv_tableIn (tgt := 111) (off := 110) hx hb dX6_argumentsText_1 (by rw [c19]; decide) (by rw [c19]; decide) (by rw [c19]; rfl) (by decide) ?_
    refine lv_aload_n hx hb dX6_argumentsText_111 rfl (lv_at hl 0 rfl) ?_
    refine lv_iconst (v := 0) hx hb dX6_argumentsText_112 (by decide) ?_
    obtain ⟨v20, M21, e22, hf⟩ := cl_b2_e hf
    refine cr_Vi C hw (c_X6_garmentInto hlt ht0 e22) cy_X6_garmentInto vy_X6_garmentInto ml_X6_242 (cl_lt ht0 (by decide)) (cl_e6 ht0) rfl rfl (As := [.int 0]) rfl hl.1 rfl ⟨⟨Nat.le_of_ble_eq_true rfl, Nat.le_of_ble_eq_true rfl⟩, Nat.le_of_ble_eq_true rfl, Nat.le_of_ble_eq_true rfl, Nat.le_of_ble_eq_true rfl⟩ dX6_argumentsText_113 (fun H locs hw => ?_)
    refine lv_if_eq (tgt := 154) hx hb dX6_argumentsText_116 (by decide) (fun c23 => ?_) (fun c23 => ?_)
    · have hf := cl_yes c23 hf
      refine lv_iconst (v := 0) hx hb dX6_argumentsText_154 (by decide) ?_
      exact k_X6_argumentsText_155 C M21 0 _ _ hf _ _ _ hw (lv_sub hl [] rfl)
    · have hf := cl_no c23 hf
      refine lv_aload_n hx hb dX6_argumentsText_119 rfl (lv_at hl 0 rfl) ?_
      refine lv_iconst (v := 1) hx hb dX6_argumentsText_120 (by decide) ?_
      refine lv_iconst (v := 0) hx hb dX6_argumentsText_121 (by decide) ?_
      refine lv_bipush (v := 23) hx hb dX6_argumentsText_122 (by decide) ?_
      obtain ⟨v25, M26, e27, hf⟩ := cl_b2_e hf
      refine cr_Vi C hw (c_X6_into hlt ht0 e27) cy_X6_into vy_X6_into ml_X6_204 (cl_lt ht0 (by decide)) (cl_e6 ht0) rfl rfl (As := [.int 1, .int 0, .int 23]) rfl hl.1 rfl ⟨⟨Nat.le_of_ble_eq_true rfl, Nat.le_of_ble_eq_true rfl⟩, Nat.le_of_ble_eq_true rfl, Nat.le_of_ble_eq_true rfl, Nat.le_of_ble_eq_true rfl⟩ dX6_argumentsText_124 (fun H locs hw => ?_)
      refine lv_if_eq (tgt := 154) hx hb dX6_argumentsText_127 (by decide) (fun c28 => ?_) (fun c28 => ?_)
      · have hf := cl_yes c28 hf
        refine lv_iconst (v := 0) hx hb dX6_argumentsText_154 (by decide) ?_
        exact k_X6_argumentsText_155 C M26 0 _ _ hf _ _ _ hw (lv_sub hl [] rfl)
      · have hf := cl_no c28 hf
        refine lv_aload_n hx hb dX6_argumentsText_130 rfl (lv_at hl 0 rfl) ?_
        refine lv_iconst (v := 2) hx hb dX6_argumentsText_131 (by decide) ?_
        refine lv_iconst (v := 0) hx hb dX6_argumentsText_132 (by decide) ?_
        refine lv_iconst (v := 4) hx hb dX6_argumentsText_133 (by decide) ?_
        obtain ⟨v29, M30, e31, hf⟩ := cl_b2_e hf
        refine cr_Vi C hw (c_X6_into hlt ht0 e31) cy_X6_into vy_X6_into ml_X6_204 (cl_lt ht0 (by decide)) (cl_e6 ht0) rfl rfl (As := [.int 2, .int 0, .int 4]) rfl hl.1 rfl ⟨⟨Nat.le_of_ble_eq_true rfl, Nat.le_of_ble_eq_true rfl⟩, Nat.le_of_ble_eq_true rfl, Nat.le_of_ble_eq_true rfl, Nat.le_of_ble_eq_true rfl⟩ dX6_argumentsText_134 (fun H locs hw => ?_)
        refine lv_if_eq (tgt := 154) hx hb dX6_argumentsText_137 (by decide) (fun c32 => ?_) (fun c32 => ?_)
        · have hf := cl_yes c32 hf
          refine lv_iconst (v := 0) hx hb dX6_argumentsText_154 (by decide) ?_
          exact k_X6_argumentsText_155 C M30 0 _ _ hf _ _ _ hw (lv_sub hl [] rfl)
        · have hf := cl_no c32 hf
          refine lv_aload_n hx hb dX6_argumentsText_140 rfl (lv_at hl 0 rfl) ?_
          refine lv_iconst (v := 3) hx hb dX6_argumentsText_141 (by decide) ?_
          refine lv_iconst (v := 0) hx hb dX6_argumentsText_142 (by decide) ?_
          refine lv_iconst (v := 4) hx hb dX6_argumentsText_143 (by decide) ?_
          obtain ⟨v33, M34, e35, hf⟩ := cl_b2_e hf
          refine cr_Vi C hw (c_X6_into hlt ht0 e35) cy_X6_into vy_X6_into ml_X6_204 (cl_lt ht0 (by decide)) (cl_e6 ht0) rfl rfl (As := [.int 3, .int 0, .int 4]) rfl hl.1 rfl ⟨⟨Nat.le_of_ble_eq_true rfl, Nat.le_of_ble_eq_true rfl⟩, Nat.le_of_ble_eq_true rfl, Nat.le_of_ble_eq_true rfl, Nat.le_of_ble_eq_true rfl⟩ dX6_argumentsText_144 (fun H locs hw => ?_)
          refine lv_if_eq (tgt := 154) hx hb dX6_argumentsText_147 (by decide) (fun c36 => ?_) (fun c36 => ?_)
          · have hf := cl_yes c36 hf
            refine lv_iconst (v := 0) hx hb dX6_argumentsText_154 (by decide) ?_
            exact k_X6_argumentsText_155 C M34 0 _ _ hf _ _ _ hw (lv_sub hl [] rfl)
          · have hf := cl_no c36 hf
            refine lv_iconst (v := 1) hx hb dX6_argumentsText_150 (by decide) ?_
            refine lv_goto (tgt := 155) hx hb dX6_argumentsText_151 (by decide) ?_
            exact k_X6_argumentsText_155 C M34 1 _ _ hf _ _ _ hw (lv_sub hl [] rfl)
  have hf := cl_no c19 hf
  by_cases c37 : a1 = 2
  · have hf := cl_yes c37 hf
    refine lv_tableIn (tgt := 300) (off := 299) hx hb dX6_argumentsText_1 (by rw [c37]; decide) (by rw [c37]; decide) (by rw [c37]; rfl) (by decide) ?_
    exact k_X6_argumentsText_300 C M t0 _ _ hf _ _ _ ht0 hw (lv_sub hl [0] rfl)
  have hf := cl_no c37 hf
  by_cases c42 : a1 = 3
  · have hf := cl_yes c42 hf
    refine lv_tableIn (tgt := 300) (off := 299) hx hb dX6_argumentsText_1 (by rw [c42]; decide) (by rw [c42]; decide) (by rw [c42]; rfl) (by decide) ?_
    exact k_X6_argumentsText_300 C M t0 _ _ hf _ _ _ ht0 hw (lv_sub hl [0] rfl)
  have hf := cl_no c42 hf
  by_cases c43 : a1 = 4
  · have hf := cl_yes c43 hf
    refine lv_tableIn (tgt := 300) (off := 299) hx hb dX6_argumentsText_1 (by rw [c43]; decide) (by rw [c43]; decide) (by rw [c43]; rfl) (by decide) ?_
    exact k_X6_argumentsText_300 C M t0 _ _ hf _ _ _ ht0 hw (lv_sub hl [0] rfl)
  have hf := cl_no c43 hf
  by_cases c44 : a1 = 5
  · have hf := cl_yes c44 hf
    refine lv_tableIn (tgt := 156) (off := 155) hx hb dX6_argumentsText_1 (by rw [c44]; decide) (by rw [c44]; decide) (by rw [c44]; rfl) (by decide) ?_
    refine lv_aload_n hx hb dX6_argumentsText_156 rfl (lv_at hl 0 rfl) ?_
    refine lv_iconst (v := 0) hx hb dX6_argumentsText_157 (by decide) ?_
    obtain ⟨v45, M46, e47, hf⟩ := cl_b2_e hf
    refine cr_Vi C hw (c_X6_garmentInto hlt ht0 e47) cy_X6_garmentInto vy_X6_garmentInto ml_X6_242 (cl_lt ht0 (by decide)) (cl_e6 ht0) rfl rfl (As := [.int 0]) rfl hl.1 rfl ⟨⟨Nat.le_of_ble_eq_true rfl, Nat.le_of_ble_eq_true rfl⟩, Nat.le_of_ble_eq_true rfl, Nat.le_of_ble_eq_true rfl, Nat.le_of_ble_eq_true rfl⟩ dX6_argumentsText_158 (fun H locs hw => ?_)
    refine lv_if_eq (tgt := 179) hx hb dX6_argumentsText_161 (by decide) (fun c48 => ?_) (fun c48 => ?_)
    · have hf := cl_yes c48 hf
      refine lv_iconst (v := 0) hx hb dX6_argumentsText_179 (by decide) ?_
      exact k_X6_argumentsText_180 C M46 0 _ _ hf _ _ _ hw (lv_sub hl [] rfl)
    · have hf := cl_no c48 hf
      refine lv_aload_n hx hb dX6_argumentsText_164 rfl (lv_at hl 0 rfl) ?_
      refine lv_iconst (v := 1) hx hb dX6_argumentsText_165 (by decide) ?_
      refine lv_iconst (v := 0) hx hb dX6_argumentsText_166 (by decide) ?_
      refine lv_bipush (v := 23) hx hb dX6_argumentsText_167 (by decide) ?_
      obtain ⟨v50, M51, e52, hf⟩ := cl_b2_e hf
      refine cr_Vi C hw (c_X6_into hlt ht0 e52) cy_X6_into vy_X6_into ml_X6_204 (cl_lt ht0 (by decide)) (cl_e6 ht0) rfl rfl (As := [.int 1, .int 0, .int 23]) rfl hl.1 rfl ⟨⟨Nat.le_of_ble_eq_true rfl, Nat.le_of_ble_eq_true rfl⟩, Nat.le_of_ble_eq_true rfl, Nat.le_of_ble_eq_true rfl, Nat.le_of_ble_eq_true rfl⟩ dX6_argumentsText_169 (fun H locs hw => ?_)
      refine lv_if_eq (tgt := 179) hx hb dX6_argumentsText_172 (by decide) (fun c53 => ?_) (fun c53 => ?_)
      · have hf := cl_yes c53 hf
        refine lv_iconst (v := 0) hx hb dX6_argumentsText_179 (by decide) ?_
        exact k_X6_argumentsText_180 C M51 0 _ _ hf _ _ _ hw (lv_sub hl [] rfl)
      · have hf := cl_no c53 hf
        refine lv_iconst (v := 1) hx hb dX6_argumentsText_175 (by decide) ?_
        refine lv_goto (tgt := 180) hx hb dX6_argumentsText_176 (by decide) ?_
        exact k_X6_argumentsText_180 C M51 1 _ _ hf _ _ _ hw (lv_sub hl [] rfl)
  have hf := cl_no c44 hf
  by_cases c54 : a1 = 6
  · have hf := cl_yes c54 hf
    refine lv_tableIn (tgt := 181) (off := 180) hx hb dX6_argumentsText_1 (by rw [c54]; decide) (by rw [c54]; decide) (by rw [c54]; rfl) (by decide) ?_
    refine lv_aload_n hx hb dX6_argumentsText_181 rfl (lv_at hl 0 rfl) ?_
    refine lv_iconst (v := 0) hx hb dX6_argumentsText_182 (by decide) ?_
    refine lv_iconst (v := 0) hx hb dX6_argumentsText_183 (by decide) ?_
    refine lv_sipush (v := 9999) hx hb dX6_argumentsText_184 (by decide) ?_
    obtain ⟨v55, M56, e57, hf⟩ := cl_b2_e hf
    refine cr_Vi C hw (c_X6_into hlt ht0 e57) cy_X6_into vy_X6_into ml_X6_204 (cl_lt ht0 (by decide)) (cl_e6 ht0) rfl rfl (As := [.int 0, .int 0, .int 9999]) rfl hl.1 rfl ⟨⟨Nat.le_of_ble_eq_true rfl, Nat.le_of_ble_eq_true rfl⟩, Nat.le_of_ble_eq_true rfl, Nat.le_of_ble_eq_true rfl, Nat.le_of_ble_eq_true rfl⟩ dX6_argumentsText_187 (fun H locs hw => ?_)
    refine lv_if_eq (tgt := 220) hx hb dX6_argumentsText_190 (by decide) (fun c58 => ?_) (fun c58 => ?_)
    · have hf := cl_yes c58 hf
      refine lv_iconst (v := 0) hx hb dX6_argumentsText_220 (by decide) ?_
      exact k_X6_argumentsText_221 C M56 0 _ _ hf _ _ _ hw (lv_sub hl [] rfl)
    · have hf := cl_no c58 hf
      refine lv_aload_n hx hb dX6_argumentsText_193 rfl (lv_at hl 0 rfl) ?_
      refine lv_iconst (v := 1) hx hb dX6_argumentsText_194 (by decide) ?_
      refine lv_iconst (v := 1) hx hb dX6_argumentsText_195 (by decide) ?_
      refine lv_sipush (v := 200) hx hb dX6_argumentsText_196 (by decide) ?_
      obtain ⟨v60, M61, e62, hf⟩ := cl_b2_e hf
      refine cr_Vi C hw (c_X6_into hlt ht0 e62) cy_X6_into vy_X6_into ml_X6_204 (cl_lt ht0 (by decide)) (cl_e6 ht0) rfl rfl (As := [.int 1, .int 1, .int 200]) rfl hl.1 rfl ⟨⟨Nat.le_of_ble_eq_true rfl, Nat.le_of_ble_eq_true rfl⟩, Nat.le_of_ble_eq_true rfl, Nat.le_of_ble_eq_true rfl, Nat.le_of_ble_eq_true rfl⟩ dX6_argumentsText_199 (fun H locs hw => ?_)
      refine lv_if_eq (tgt := 220) hx hb dX6_argumentsText_202 (by decide) (fun c63 => ?_) (fun c63 => ?_)
      · have hf := cl_yes c63 hf
        refine lv_iconst (v := 0) hx hb dX6_argumentsText_220 (by decide) ?_
        exact k_X6_argumentsText_221 C M61 0 _ _ hf _ _ _ hw (lv_sub hl [] rfl)
      · have hf := cl_no c63 hf
        refine lv_aload_n hx hb dX6_argumentsText_205 rfl (lv_at hl 0 rfl) ?_
        refine lv_iconst (v := 2) hx hb dX6_argumentsText_206 (by decide) ?_
        refine lv_iconst (v := 1) hx hb dX6_argumentsText_207 (by decide) ?_
        refine lv_bipush (v := 20) hx hb dX6_argumentsText_208 (by decide) ?_
        obtain ⟨v64, M65, e66, hf⟩ := cl_b2_e hf
        refine cr_Vi C hw (c_X6_into hlt ht0 e66) cy_X6_into vy_X6_into ml_X6_204 (cl_lt ht0 (by decide)) (cl_e6 ht0) rfl rfl (As := [.int 2, .int 1, .int 20]) rfl hl.1 rfl ⟨⟨Nat.le_of_ble_eq_true rfl, Nat.le_of_ble_eq_true rfl⟩, Nat.le_of_ble_eq_true rfl, Nat.le_of_ble_eq_true rfl, Nat.le_of_ble_eq_true rfl⟩ dX6_argumentsText_210 (fun H locs hw => ?_)
        refine lv_if_eq (tgt := 220) hx hb dX6_argumentsText_213 (by decide) (fun c67 => ?_) (fun c67 => ?_)
        · have hf := cl_yes c67 hf
          refine lv_iconst (v := 0) hx hb dX6_argumentsText_220 (by decide) ?_
          exact k_X6_argumentsText_221 C M65 0 _ _ hf _ _ _ hw (lv_sub hl [] rfl)
        · have hf := cl_no c67 hf
          refine lv_iconst (v := 1) hx hb dX6_argumentsText_216 (by decide) ?_
          refine lv_goto (tgt := 221) hx hb dX6_argumentsText_217 (by decide) ?_
          exact k_X6_argumentsText_221 C M65 1 _ _ hf _ _ _ hw (lv_sub hl [] rfl)
  have hf := cl_no c54 hf
  by_cases c68 : a1 = 7
  · have hf := cl_yes c68 hf
    refine lv_tableIn (tgt := 222) (off := 221) hx hb dX6_argumentsText_1 (by rw [c68]; decide) (by rw [c68]; decide) (by rw [c68]; rfl) (by decide) ?_
    refine lv_aload_n hx hb dX6_argumentsText_222 rfl (lv_at hl 0 rfl) ?_
    refine lv_iconst (v := 0) hx hb dX6_argumentsText_223 (by decide) ?_
    refine lv_iconst (v := 0) hx hb dX6_argumentsText_224 (by decide) ?_
    refine lv_sipush (v := 9999) hx hb dX6_argumentsText_225 (by decide) ?_
    obtain ⟨v69, M70, e71, hf⟩ := cl_b2_e hf
    refine cr_Vi C hw (c_X6_into hlt ht0 e71) cy_X6_into vy_X6_into ml_X6_204 (cl_lt ht0 (by decide)) (cl_e6 ht0) rfl rfl (As := [.int 0, .int 0, .int 9999]) rfl hl.1 rfl ⟨⟨Nat.le_of_ble_eq_true rfl, Nat.le_of_ble_eq_true rfl⟩, Nat.le_of_ble_eq_true rfl, Nat.le_of_ble_eq_true rfl, Nat.le_of_ble_eq_true rfl⟩ dX6_argumentsText_228 (fun H locs hw => ?_)
    refine lv_if_eq (tgt := 255) hx hb dX6_argumentsText_231 (by decide) (fun c72 => ?_) (fun c72 => ?_)
    · have hf := cl_yes c72 hf
      refine lv_iconst (v := 0) hx hb dX6_argumentsText_255 (by decide) ?_
      exact k_X6_argumentsText_256 C M70 0 _ _ hf _ _ _ hw (lv_sub hl [] rfl)
    · have hf := cl_no c72 hf
      refine lv_aload_n hx hb dX6_argumentsText_234 rfl (lv_at hl 0 rfl) ?_
      refine lv_iconst (v := 1) hx hb dX6_argumentsText_235 (by decide) ?_
      refine lv_aload_n hx hb dX6_argumentsText_236 rfl (lv_at hl 0 rfl) ?_
      refine fg_X6_36 C hw ht0 dX6_argumentsText_237 ?_
      refine lv_iconst (v := 0) hx hb dX6_argumentsText_240 (by decide) ?_
      refine cr_iald C hw (sh_6_12 ht0).1 (sh_6_12 ht0).2 (by decide) (k := 0) rfl dX6_argumentsText_241 ?_
      refine lv_sipush (v := 9999) hx hb dX6_argumentsText_242 (by decide) ?_
      obtain ⟨v74, M75, e76, hf⟩ := cl_b2_e hf
      refine cr_Vi C hw (c_X6_into hlt ht0 e76) cy_X6_into vy_X6_into ml_X6_204 (cl_lt ht0 (by decide)) (cl_e6 ht0) rfl rfl (As := [.int 1, .int (M70 (t0 + 8) 0), .int 9999]) rfl hl.1 rfl ⟨⟨Nat.le_of_ble_eq_true rfl, Nat.le_of_ble_eq_true rfl⟩, Nat.le_of_ble_eq_true rfl, Nat.le_of_ble_eq_true rfl, Nat.le_of_ble_eq_true rfl⟩ dX6_argumentsText_245 (fun H locs hw => ?_)
      refine lv_if_eq (tgt := 255) hx hb dX6_argumentsText_248 (by decide) (fun c77 => ?_) (fun c77 => ?_)
      · have hf := cl_yes c77 hf
        refine lv_iconst (v := 0) hx hb dX6_argumentsText_255 (by decide) ?_
        exact k_X6_argumentsText_256 C M75 0 _ _ hf _ _ _ hw (lv_sub hl [] rfl)
      · have hf := cl_no c77 hf
        refine lv_iconst (v := 1) hx hb dX6_argumentsText_251 (by decide) ?_
        refine lv_goto (tgt := 256) hx hb dX6_argumentsText_252 (by decide) ?_
        exact k_X6_argumentsText_256 C M75 1 _ _ hf _ _ _ hw (lv_sub hl [] rfl)
  have hf := cl_no c68 hf
  by_cases c78 : a1 = 8
  · have hf := cl_yes c78 hf
    refine lv_tableIn (tgt := 257) (off := 256) hx hb dX6_argumentsText_1 (by rw [c78]; decide) (by rw [c78]; decide) (by rw [c78]; rfl) (by decide) ?_
    refine lv_aload_n hx hb dX6_argumentsText_257 rfl (lv_at hl 0 rfl) ?_
    refine lv_iconst (v := 0) hx hb dX6_argumentsText_258 (by decide) ?_
    refine lv_iconst (v := 0) hx hb dX6_argumentsText_259 (by decide) ?_
    refine lv_aload_n hx hb dX6_argumentsText_260 rfl (lv_at hl 0 rfl) ?_
    refine fg_X6_17 C hw ht0 dX6_argumentsText_261 ?_
    refine lv_iconst (v := 4) hx hb dX6_argumentsText_264 (by decide) ?_
    refine cr_iald C hw (sh_6_5 ht0).1 (sh_6_5 ht0).2 (by decide) (k := 4) rfl dX6_argumentsText_265 ?_
    refine lv_iconst (v := 1) hx hb dX6_argumentsText_266 (by decide) ?_
    refine lv_isub hx hb dX6_argumentsText_267 ?_
    obtain ⟨v79, M80, e81, hf⟩ := cl_b2_e hf
    refine cr_Vi C hw (c_X6_into hlt ht0 e81) cy_X6_into vy_X6_into ml_X6_204 (cl_lt ht0 (by decide)) (cl_e6 ht0) rfl rfl (As := [.int 0, .int 0, .int ((M (t0 + 2) 4) - 1)]) rfl hl.1 rfl ⟨⟨Nat.le_of_ble_eq_true rfl, Nat.le_of_ble_eq_true rfl⟩, Nat.le_of_ble_eq_true rfl, Nat.le_of_ble_eq_true rfl, Nat.le_of_ble_eq_true rfl⟩ dX6_argumentsText_268 (fun H locs hw => ?_)
    refine lv_if_eq (tgt := 288) hx hb dX6_argumentsText_271 (by decide) (fun c82 => ?_) (fun c82 => ?_)
    · have hf := cl_yes c82 hf
      refine lv_iconst (v := 0) hx hb dX6_argumentsText_288 (by decide) ?_
      exact k_X6_argumentsText_289 C M80 0 _ _ hf _ _ _ hw (lv_sub hl [] rfl)
    · have hf := cl_no c82 hf
      refine lv_aload_n hx hb dX6_argumentsText_274 rfl (lv_at hl 0 rfl) ?_
      refine lv_iconst (v := 1) hx hb dX6_argumentsText_275 (by decide) ?_
      refine lv_iconst (v := 0) hx hb dX6_argumentsText_276 (by decide) ?_
      refine lv_iconst (v := 5) hx hb dX6_argumentsText_277 (by decide) ?_
      obtain ⟨v84, M85, e86, hf⟩ := cl_b2_e hf
      refine cr_Vi C hw (c_X6_into hlt ht0 e86) cy_X6_into vy_X6_into ml_X6_204 (cl_lt ht0 (by decide)) (cl_e6 ht0) rfl rfl (As := [.int 1, .int 0, .int 5]) rfl hl.1 rfl ⟨⟨Nat.le_of_ble_eq_true rfl, Nat.le_of_ble_eq_true rfl⟩, Nat.le_of_ble_eq_true rfl, Nat.le_of_ble_eq_true rfl, Nat.le_of_ble_eq_true rfl⟩ dX6_argumentsText_278 (fun H locs hw => ?_)
      refine lv_if_eq (tgt := 288) hx hb dX6_argumentsText_281 (by decide) (fun c87 => ?_) (fun c87 => ?_)
      · have hf := cl_yes c87 hf
        refine lv_iconst (v := 0) hx hb dX6_argumentsText_288 (by decide) ?_
        exact k_X6_argumentsText_289 C M85 0 _ _ hf _ _ _ hw (lv_sub hl [] rfl)
      · have hf := cl_no c87 hf
        refine lv_iconst (v := 1) hx hb dX6_argumentsText_284 (by decide) ?_
        refine lv_goto (tgt := 289) hx hb dX6_argumentsText_285 (by decide) ?_
        exact k_X6_argumentsText_289 C M85 1 _ _ hf _ _ _ hw (lv_sub hl [] rfl)
  have hf := cl_no c78 hf
  by_cases c88 : a1 = 9
  · have hf := cl_yes c88 hf
    refine lv_tableIn (tgt := 290) (off := 289) hx hb dX6_argumentsText_1 (by rw [c88]; decide) (by rw [c88]; decide) (by rw [c88]; rfl) (by decide) ?_
    refine lv_aload_n hx hb dX6_argumentsText_290 rfl (lv_at hl 0 rfl) ?_
    refine lv_iconst (v := 0) hx hb dX6_argumentsText_291 (by decide) ?_
    refine lv_iconst (v := 1) hx hb dX6_argumentsText_292 (by decide) ?_
    refine lv_sipush (v := 200) hx hb dX6_argumentsText_293 (by decide) ?_
    obtain ⟨v89, M90, e91, hf⟩ := cl_b2_e hf
    refine cr_Vi C hw (c_X6_into hlt ht0 e91) cy_X6_into vy_X6_into ml_X6_204 (cl_lt ht0 (by decide)) (cl_e6 ht0) rfl rfl (As := [.int 0, .int 1, .int 200]) rfl hl.1 rfl ⟨⟨Nat.le_of_ble_eq_true rfl, Nat.le_of_ble_eq_true rfl⟩, Nat.le_of_ble_eq_true rfl, Nat.le_of_ble_eq_true rfl, Nat.le_of_ble_eq_true rfl⟩ dX6_argumentsText_296 (fun H locs hw => ?_)
    obtain ⟨q92, hf⟩ := cl_grd hf
    obtain ⟨rfl, rfl⟩ := cl_pair hf
    exact cr_retz C hw q92 dX6_argumentsText_299
  have hf := cl_no c88 hf
  have qc1 := lv_neT c1 (a := 0) (by decide)
  have qc19 := lv_neT c19 (a := 1) (by decide)
  have qc37 := lv_neT c37 (a := 2) (by decide)
  have qc42 := lv_neT c42 (a := 3) (by decide)
  have qc43 := lv_neT c43 (a := 4) (by decide)
  have qc44 := lv_neT c44 (a := 5) (by decide)
  have qc54 := lv_neT c54 (a := 6) (by decide)
  have qc68 := lv_neT c68 (a := 7) (by decide)
  have qc78 := lv_neT c78 (a := 8) (by decide)
  have qc88 := lv_neT c88 (a := 9) (by decide)
  refine lv_tableOut (tgt := 300) hx hb dX6_argumentsText_1 (by omega) (by decide) ?_
  exact k_X6_argumentsText_300 C M t0 _ _ hf _ _ _ ht0 hw (lv_sub hl [0] rfl)
set_option maxRecDepth 100000 in
theorem c_X6_argumentsText {l : Launch} {dd : cl_D} {b : Nat} (hlt : l.stackTraces = false) {M : cl_M} {t0 : Nat} {a1 : Int32}  {r : Int32} {M' : cl_M} (ht0 : cl_sh dd t0 = 6) (h : f_X6_argumentsText M t0 a1 = some (r, M')) : cl_Mi l dd b yX6_argumentsText cX6_argumentsText 2 (some .boolean) 5 107 [.ref (b + t0), .int a1] M r M' :=
  cl_of hlt (by decide) (Nat.le_of_ble_eq_true rfl) (fun p e s m below meth c ls C hw hl => k_X6_argumentsText C M t0 a1 r M' h _ _ _ ht0 hw (lv_sub hl [0, 1] rfl))
theorem cy_X6_argumentsText : cl_cy yX6_argumentsText cX6_argumentsText 2 (some .boolean) 1 := ⟨in_ClothesLineModel, cd_X6_argumentsText, by decide +kernel, by decide +kernel, by decide +kernel⟩
theorem vy_X6_argumentsText : cl_vy yX6_argumentsText := ⟨im_X6_argumentsText, se_X6_argumentsText⟩
def f_X6_isPossible_72 (M : cl_M) (z0 : Int32) : Option (Int32) := if cl_bz z0 = true then some z0 else none
set_option maxHeartbeats 4000000 in
set_option maxRecDepth 100000 in
theorem k_X6_isPossible_72 {p : Program} {l : Launch} {e : Env} {s : State} {m : MethodId} {args : Array Value} {below : List Frame} {meth : Method} {c : Code} {dd : cl_D} {b : Nat} (C : cl_C p l s m args meth c cX6_isPossible RX6 2 (some .boolean) dd b) : ∀ (M : cl_M) (z0 : Int32) (r : Int32), f_X6_isPossible_72 M z0 = some r → ∀ (H : Heap) (locs : List Loc) (ls : Array Slot), cl_H dd b M s H locs → lv_has ls 2 [] → W p l e { frames := 5, cells := 0, slots := 0, locals := 112 } s m args below meth c H locs 0 0 (cl_Zi below args s dd b r M) (F0 m 72 ls [.int z0]) := by
  have hx := C.1
  have hb := C.2.1
  have hlt := C.2.2.2.2.2.2.2.2.2.2
  have hRr := C.2.2.2.2.2.2.2.2.2.1
  intro M z0 r hf H locs ls hw hl
  unfold f_X6_isPossible_72 at hf
  obtain ⟨q5, hf⟩ := cl_grd hf
  obtain rfl := Option.some.inj hf
  exact cr_retz C hw q5 dX6_isPossible_72
def f_X6_isPossible (M : cl_M) (t0 : Nat) (a1 : Int32) : Option (Int32) := if a1 = 1 then (f_X6_obstacle M t0 (M (t0 + 8) 0) (M (t0 + 8) 1) (M (t0 + 8) 2) (M (t0 + 8) 3)).bind (fun v2 => if v2 = 0 then f_X6_isPossible_72 M 1 else f_X6_isPossible_72 M 0) else if a1 = 2 then (f_X6_isIn M t0 (M (t0 + 8) 0) 1).bind (fun v7 => if cl_bz v7 = true then some v7 else none) else if a1 = 3 then (f_X6_isIn M t0 (M (t0 + 8) 0) 2).bind (fun v11 => if cl_bz v11 = true then some v11 else none) else if a1 = 4 then (f_X6_isIn M t0 (M (t0 + 8) 0) 0).bind (fun v15 => if cl_bz v15 = true then some v15 else none) else if a1 = 5 then (f_X6_canShift M t0 (M (t0 + 8) 0) (M (t0 + 8) 1)).bind (fun v19 => if cl_bz v19 = true then some v19 else none) else some 1
set_option maxHeartbeats 4000000 in
set_option maxRecDepth 100000 in
theorem k_X6_isPossible {p : Program} {l : Launch} {e : Env} {s : State} {m : MethodId} {args : Array Value} {below : List Frame} {meth : Method} {c : Code} {dd : cl_D} {b : Nat} (C : cl_C p l s m args meth c cX6_isPossible RX6 2 (some .boolean) dd b) : ∀ (M : cl_M) (t0 : Nat) (a1 : Int32) (r : Int32), f_X6_isPossible M t0 a1 = some r → ∀ (H : Heap) (locs : List Loc) (ls : Array Slot), cl_sh dd t0 = 6 → cl_H dd b M s H locs → lv_has ls 2 [(0, .ref (b + t0)), (1, .int a1)] → W p l e { frames := 5, cells := 0, slots := 0, locals := 112 } s m args below meth c H locs 0 0 (cl_Zi below args s dd b r M) (F0 m 0 ls []) := by
  have hx := C.1
  have hb := C.2.1
  have hlt := C.2.2.2.2.2.2.2.2.2.2
  have hRr := C.2.2.2.2.2.2.2.2.2.1
  intro M t0 a1 r hf H locs ls ht0 hw hl
  unfold f_X6_isPossible at hf
  refine lv_iload_n hx hb dX6_isPossible_0 rfl (lv_at hl 1 rfl) ?_
  by_cases c1 : a1 = 1
  · have hf := cl_yes c1 hf
    refine lv_tableIn (tgt := 36) (off := 35) hx hb dX6_isPossible_1 (by rw [c1]; decide) (by rw [c1]; decide) (by rw [c1]; rfl) (by decide) ?_
    refine lv_aload_n hx hb dX6_isPossible_36 rfl (lv_at hl 0 rfl) ?_
    refine lv_aload_n hx hb dX6_isPossible_37 rfl (lv_at hl 0 rfl) ?_
    refine fg_X6_36 C hw ht0 dX6_isPossible_38 ?_
    refine lv_iconst (v := 0) hx hb dX6_isPossible_41 (by decide) ?_
    refine cr_iald C hw (sh_6_12 ht0).1 (sh_6_12 ht0).2 (by decide) (k := 0) rfl dX6_isPossible_42 ?_
    refine lv_aload_n hx hb dX6_isPossible_43 rfl (lv_at hl 0 rfl) ?_
    refine fg_X6_36 C hw ht0 dX6_isPossible_44 ?_
    refine lv_iconst (v := 1) hx hb dX6_isPossible_47 (by decide) ?_
    refine cr_iald C hw (sh_6_12 ht0).1 (sh_6_12 ht0).2 (by decide) (k := 1) rfl dX6_isPossible_48 ?_
    refine lv_aload_n hx hb dX6_isPossible_49 rfl (lv_at hl 0 rfl) ?_
    refine fg_X6_36 C hw ht0 dX6_isPossible_50 ?_
    refine lv_iconst (v := 2) hx hb dX6_isPossible_53 (by decide) ?_
    refine cr_iald C hw (sh_6_12 ht0).1 (sh_6_12 ht0).2 (by decide) (k := 2) rfl dX6_isPossible_54 ?_
    refine lv_aload_n hx hb dX6_isPossible_55 rfl (lv_at hl 0 rfl) ?_
    refine fg_X6_36 C hw ht0 dX6_isPossible_56 ?_
    refine lv_iconst (v := 3) hx hb dX6_isPossible_59 (by decide) ?_
    refine cr_iald C hw (sh_6_12 ht0).1 (sh_6_12 ht0).2 (by decide) (k := 3) rfl dX6_isPossible_60 ?_
    obtain ⟨v2, e3, hf⟩ := cl_bind_e hf
    refine cr_Vi C hw (c_X6_obstacle hlt ht0 e3) cy_X6_obstacle vy_X6_obstacle ml_X6_245 (cl_lt ht0 (by decide)) (cl_e6 ht0) rfl rfl (As := [.int (M (t0 + 8) 0), .int (M (t0 + 8) 1), .int (M (t0 + 8) 2), .int (M (t0 + 8) 3)]) rfl hl.1 rfl ⟨⟨Nat.le_of_ble_eq_true rfl, Nat.le_of_ble_eq_true rfl⟩, Nat.le_of_ble_eq_true rfl, Nat.le_of_ble_eq_true rfl, Nat.le_of_ble_eq_true rfl⟩ dX6_isPossible_61 (fun H locs hw => ?_)
    refine lv_if_ne (tgt := 71) hx hb dX6_isPossible_64 (by decide) (fun c4 => ?_) (fun c4 => ?_)
    · have hf := cl_no c4 hf
      refine lv_iconst (v := 0) hx hb dX6_isPossible_71 (by decide) ?_
      exact k_X6_isPossible_72 C M 0 _ hf _ _ _ hw (lv_sub hl [] rfl)
    · have hf := cl_yes c4 hf
      refine lv_iconst (v := 1) hx hb dX6_isPossible_67 (by decide) ?_
      refine lv_goto (tgt := 72) hx hb dX6_isPossible_68 (by decide) ?_
      exact k_X6_isPossible_72 C M 1 _ hf _ _ _ hw (lv_sub hl [] rfl)
  have hf := cl_no c1 hf
  by_cases c6 : a1 = 2
  · have hf := cl_yes c6 hf
    refine lv_tableIn (tgt := 73) (off := 72) hx hb dX6_isPossible_1 (by rw [c6]; decide) (by rw [c6]; decide) (by rw [c6]; rfl) (by decide) ?_
    refine lv_aload_n hx hb dX6_isPossible_73 rfl (lv_at hl 0 rfl) ?_
    refine lv_aload_n hx hb dX6_isPossible_74 rfl (lv_at hl 0 rfl) ?_
    refine fg_X6_36 C hw ht0 dX6_isPossible_75 ?_
    refine lv_iconst (v := 0) hx hb dX6_isPossible_78 (by decide) ?_
    refine cr_iald C hw (sh_6_12 ht0).1 (sh_6_12 ht0).2 (by decide) (k := 0) rfl dX6_isPossible_79 ?_
    refine lv_iconst (v := 1) hx hb dX6_isPossible_80 (by decide) ?_
    obtain ⟨v7, e8, hf⟩ := cl_bind_e hf
    refine cr_Vi C hw (c_X6_isIn hlt ht0 e8) cy_X6_isIn vy_X6_isIn ml_X6_84 (cl_lt ht0 (by decide)) (cl_e6 ht0) rfl rfl (As := [.int (M (t0 + 8) 0), .int 1]) rfl hl.1 rfl ⟨⟨Nat.le_of_ble_eq_true rfl, Nat.le_of_ble_eq_true rfl⟩, Nat.le_of_ble_eq_true rfl, Nat.le_of_ble_eq_true rfl, Nat.le_of_ble_eq_true rfl⟩ dX6_isPossible_81 (fun H locs hw => ?_)
    obtain ⟨q9, hf⟩ := cl_grd hf
    obtain rfl := Option.some.inj hf
    exact cr_retz C hw q9 dX6_isPossible_84
  have hf := cl_no c6 hf
  by_cases c10 : a1 = 3
  · have hf := cl_yes c10 hf
    refine lv_tableIn (tgt := 85) (off := 84) hx hb dX6_isPossible_1 (by rw [c10]; decide) (by rw [c10]; decide) (by rw [c10]; rfl) (by decide) ?_
    refine lv_aload_n hx hb dX6_isPossible_85 rfl (lv_at hl 0 rfl) ?_
    refine lv_aload_n hx hb dX6_isPossible_86 rfl (lv_at hl 0 rfl) ?_
    refine fg_X6_36 C hw ht0 dX6_isPossible_87 ?_
    refine lv_iconst (v := 0) hx hb dX6_isPossible_90 (by decide) ?_
    refine cr_iald C hw (sh_6_12 ht0).1 (sh_6_12 ht0).2 (by decide) (k := 0) rfl dX6_isPossible_91 ?_
    refine lv_iconst (v := 2) hx hb dX6_isPossible_92 (by decide) ?_
    obtain ⟨v11, e12, hf⟩ := cl_bind_e hf
    refine cr_Vi C hw (c_X6_isIn hlt ht0 e12) cy_X6_isIn vy_X6_isIn ml_X6_84 (cl_lt ht0 (by decide)) (cl_e6 ht0) rfl rfl (As := [.int (M (t0 + 8) 0), .int 2]) rfl hl.1 rfl ⟨⟨Nat.le_of_ble_eq_true rfl, Nat.le_of_ble_eq_true rfl⟩, Nat.le_of_ble_eq_true rfl, Nat.le_of_ble_eq_true rfl, Nat.le_of_ble_eq_true rfl⟩ dX6_isPossible_93 (fun H locs hw => ?_)
    obtain ⟨q13, hf⟩ := cl_grd hf
    obtain rfl := Option.some.inj hf
    exact cr_retz C hw q13 dX6_isPossible_96
  have hf := cl_no c10 hf
  by_cases c14 : a1 = 4
  · have hf := cl_yes c14 hf
    refine lv_tableIn (tgt := 97) (off := 96) hx hb dX6_isPossible_1 (by rw [c14]; decide) (by rw [c14]; decide) (by rw [c14]; rfl) (by decide) ?_
    refine lv_aload_n hx hb dX6_isPossible_97 rfl (lv_at hl 0 rfl) ?_
    refine lv_aload_n hx hb dX6_isPossible_98 rfl (lv_at hl 0 rfl) ?_
    refine fg_X6_36 C hw ht0 dX6_isPossible_99 ?_
    refine lv_iconst (v := 0) hx hb dX6_isPossible_102 (by decide) ?_
    refine cr_iald C hw (sh_6_12 ht0).1 (sh_6_12 ht0).2 (by decide) (k := 0) rfl dX6_isPossible_103 ?_
    refine lv_iconst (v := 0) hx hb dX6_isPossible_104 (by decide) ?_
    obtain ⟨v15, e16, hf⟩ := cl_bind_e hf
    refine cr_Vi C hw (c_X6_isIn hlt ht0 e16) cy_X6_isIn vy_X6_isIn ml_X6_84 (cl_lt ht0 (by decide)) (cl_e6 ht0) rfl rfl (As := [.int (M (t0 + 8) 0), .int 0]) rfl hl.1 rfl ⟨⟨Nat.le_of_ble_eq_true rfl, Nat.le_of_ble_eq_true rfl⟩, Nat.le_of_ble_eq_true rfl, Nat.le_of_ble_eq_true rfl, Nat.le_of_ble_eq_true rfl⟩ dX6_isPossible_105 (fun H locs hw => ?_)
    obtain ⟨q17, hf⟩ := cl_grd hf
    obtain rfl := Option.some.inj hf
    exact cr_retz C hw q17 dX6_isPossible_108
  have hf := cl_no c14 hf
  by_cases c18 : a1 = 5
  · have hf := cl_yes c18 hf
    refine lv_tableIn (tgt := 109) (off := 108) hx hb dX6_isPossible_1 (by rw [c18]; decide) (by rw [c18]; decide) (by rw [c18]; rfl) (by decide) ?_
    refine lv_aload_n hx hb dX6_isPossible_109 rfl (lv_at hl 0 rfl) ?_
    refine lv_aload_n hx hb dX6_isPossible_110 rfl (lv_at hl 0 rfl) ?_
    refine fg_X6_36 C hw ht0 dX6_isPossible_111 ?_
    refine lv_iconst (v := 0) hx hb dX6_isPossible_114 (by decide) ?_
    refine cr_iald C hw (sh_6_12 ht0).1 (sh_6_12 ht0).2 (by decide) (k := 0) rfl dX6_isPossible_115 ?_
    refine lv_aload_n hx hb dX6_isPossible_116 rfl (lv_at hl 0 rfl) ?_
    refine fg_X6_36 C hw ht0 dX6_isPossible_117 ?_
    refine lv_iconst (v := 1) hx hb dX6_isPossible_120 (by decide) ?_
    refine cr_iald C hw (sh_6_12 ht0).1 (sh_6_12 ht0).2 (by decide) (k := 1) rfl dX6_isPossible_121 ?_
    obtain ⟨v19, e20, hf⟩ := cl_bind_e hf
    refine cr_Vi C hw (c_X6_canShift hlt ht0 e20) cy_X6_canShift vy_X6_canShift ml_X6_249 (cl_lt ht0 (by decide)) (cl_e6 ht0) rfl rfl (As := [.int (M (t0 + 8) 0), .int (M (t0 + 8) 1)]) rfl hl.1 rfl ⟨⟨Nat.le_of_ble_eq_true rfl, Nat.le_of_ble_eq_true rfl⟩, Nat.le_of_ble_eq_true rfl, Nat.le_of_ble_eq_true rfl, Nat.le_of_ble_eq_true rfl⟩ dX6_isPossible_122 (fun H locs hw => ?_)
    obtain ⟨q21, hf⟩ := cl_grd hf
    obtain rfl := Option.some.inj hf
    exact cr_retz C hw q21 dX6_isPossible_125
  have hf := cl_no c18 hf
  have qc1 := lv_neT c1 (a := 1) (by decide)
  have qc6 := lv_neT c6 (a := 2) (by decide)
  have qc10 := lv_neT c10 (a := 3) (by decide)
  have qc14 := lv_neT c14 (a := 4) (by decide)
  have qc18 := lv_neT c18 (a := 5) (by decide)
  refine lv_tableOut (tgt := 126) hx hb dX6_isPossible_1 (by omega) (by decide) ?_
  refine lv_iconst (v := 1) hx hb dX6_isPossible_126 (by decide) ?_
  obtain rfl := Option.some.inj hf
  exact cr_retz C hw (by decide) dX6_isPossible_127
set_option maxRecDepth 100000 in
theorem c_X6_isPossible {l : Launch} {dd : cl_D} {b : Nat} (hlt : l.stackTraces = false) {M : cl_M} {t0 : Nat} {a1 : Int32}  {r : Int32} (ht0 : cl_sh dd t0 = 6) (h : f_X6_isPossible M t0 a1 = some r) : cl_Mi l dd b yX6_isPossible cX6_isPossible 2 (some .boolean) 5 112 [.ref (b + t0), .int a1] M r M :=
  cl_of hlt (by decide) (Nat.le_of_ble_eq_true rfl) (fun p e s m below meth c ls C hw hl => k_X6_isPossible C M t0 a1 r h _ _ _ ht0 hw (lv_sub hl [0, 1] rfl))
theorem cy_X6_isPossible : cl_cy yX6_isPossible cX6_isPossible 2 (some .boolean) 1 := ⟨in_ClothesLineModel, cd_X6_isPossible, by decide +kernel, by decide +kernel, by decide +kernel⟩
theorem vy_X6_isPossible : cl_vy yX6_isPossible := ⟨im_X6_isPossible, se_X6_isPossible⟩
def f_X6_does (M : cl_M) (t0 : Nat) (a1 : Int32) : Option (Int32 × cl_M) := if a1 = 0 then cl_b2 (f_X6_doGarment M t0 (M (t0 + 8) 0) (M (t0 + 8) 1) (M (t0 + 8) 2) (M (t0 + 8) 3)) (fun v2 M3 => some (v2, M3)) else if a1 = 1 then cl_b2 (f_X6_doHang M t0 (M (t0 + 8) 0) (M (t0 + 8) 1) (M (t0 + 8) 2) (M (t0 + 8) 3)) (fun v6 M7 => some (v6, M7)) else if a1 = 2 then cl_b2 (f_X6_doTake M t0 (M (t0 + 8) 0)) (fun v10 M11 => some (v10, M11)) else if a1 = 3 then cl_b2 (f_X6_doPick M t0 (M (t0 + 8) 0)) (fun v14 M15 => some (v14, M15)) else if a1 = 4 then cl_b2 (f_X6_doWash M t0 (M (t0 + 8) 0)) (fun v18 M19 => some (v18, M19)) else if a1 = 5 then cl_b2 (f_X6_doShift M t0 (M (t0 + 8) 0) (M (t0 + 8) 1)) (fun v22 M23 => some (v22, M23)) else if a1 = 6 then cl_b2 (f_X6_doShower M t0 (M (t0 + 8) 0) (M (t0 + 8) 1) (M (t0 + 8) 2)) (fun v26 M27 => some (v26, M27)) else if a1 = 7 then cl_b2 (f_X6_doSmoke M t0 (M (t0 + 8) 0) (M (t0 + 8) 1)) (fun v30 M31 => some (v30, M31)) else if a1 = 8 then cl_b2 (f_X6_doWind M t0 (M (t0 + 8) 0) (M (t0 + 8) 1)) (fun v34 M35 => some (v34, M35)) else cl_b2 (f_X6_passAll M t0 (M (t0 + 8) 0)) (fun v37 M38 => some (v37, M38))
set_option maxHeartbeats 4000000 in
set_option maxRecDepth 100000 in
theorem k_X6_does {p : Program} {l : Launch} {e : Env} {s : State} {m : MethodId} {args : Array Value} {below : List Frame} {meth : Method} {c : Code} {dd : cl_D} {b : Nat} (C : cl_C p l s m args meth c cX6_does RX6 2 (some .int) dd b) : ∀ (M : cl_M) (t0 : Nat) (a1 : Int32) (r : Int32) (M' : cl_M), f_X6_does M t0 a1 = some (r, M') → ∀ (H : Heap) (locs : List Loc) (ls : Array Slot), cl_sh dd t0 = 6 → cl_H dd b M s H locs → lv_has ls 2 [(0, .ref (b + t0)), (1, .int a1)] → W p l e { frames := 6, cells := 0, slots := 0, locals := 138 } s m args below meth c H locs 0 0 (cl_Zi below args s dd b r M') (F0 m 0 ls []) := by
  have hx := C.1
  have hb := C.2.1
  have hlt := C.2.2.2.2.2.2.2.2.2.2
  have hRr := C.2.2.2.2.2.2.2.2.2.1
  intro M t0 a1 r M' hf H locs ls ht0 hw hl
  unfold f_X6_does at hf
  refine lv_iload_n hx hb dX6_does_0 rfl (lv_at hl 1 rfl) ?_
  by_cases c1 : a1 = 0
  · have hf := cl_yes c1 hf
    refine lv_tableIn (tgt := 52) (off := 51) hx hb dX6_does_1 (by rw [c1]; decide) (by rw [c1]; decide) (by rw [c1]; rfl) (by decide) ?_
    refine lv_aload_n hx hb dX6_does_52 rfl (lv_at hl 0 rfl) ?_
    refine lv_aload_n hx hb dX6_does_53 rfl (lv_at hl 0 rfl) ?_
    refine fg_X6_36 C hw ht0 dX6_does_54 ?_
    refine lv_iconst (v := 0) hx hb dX6_does_57 (by decide) ?_
    refine cr_iald C hw (sh_6_12 ht0).1 (sh_6_12 ht0).2 (by decide) (k := 0) rfl dX6_does_58 ?_
    refine lv_aload_n hx hb dX6_does_59 rfl (lv_at hl 0 rfl) ?_
    refine fg_X6_36 C hw ht0 dX6_does_60 ?_
    refine lv_iconst (v := 1) hx hb dX6_does_63 (by decide) ?_
    refine cr_iald C hw (sh_6_12 ht0).1 (sh_6_12 ht0).2 (by decide) (k := 1) rfl dX6_does_64 ?_
    refine lv_aload_n hx hb dX6_does_65 rfl (lv_at hl 0 rfl) ?_
    refine fg_X6_36 C hw ht0 dX6_does_66 ?_
    refine lv_iconst (v := 2) hx hb dX6_does_69 (by decide) ?_
    refine cr_iald C hw (sh_6_12 ht0).1 (sh_6_12 ht0).2 (by decide) (k := 2) rfl dX6_does_70 ?_
    refine lv_aload_n hx hb dX6_does_71 rfl (lv_at hl 0 rfl) ?_
    refine fg_X6_36 C hw ht0 dX6_does_72 ?_
    refine lv_iconst (v := 3) hx hb dX6_does_75 (by decide) ?_
    refine cr_iald C hw (sh_6_12 ht0).1 (sh_6_12 ht0).2 (by decide) (k := 3) rfl dX6_does_76 ?_
    obtain ⟨v2, M3, e4, hf⟩ := cl_b2_e hf
    refine cr_Vi C hw (c_X6_doGarment hlt ht0 e4) cy_X6_doGarment vy_X6_doGarment ml_X6_252 (cl_lt ht0 (by decide)) (cl_e6 ht0) rfl rfl (As := [.int (M (t0 + 8) 0), .int (M (t0 + 8) 1), .int (M (t0 + 8) 2), .int (M (t0 + 8) 3)]) rfl hl.1 rfl ⟨⟨Nat.le_of_ble_eq_true rfl, Nat.le_of_ble_eq_true rfl⟩, Nat.le_of_ble_eq_true rfl, Nat.le_of_ble_eq_true rfl, Nat.le_of_ble_eq_true rfl⟩ dX6_does_77 (fun H locs hw => ?_)
    obtain ⟨rfl, rfl⟩ := cl_pair hf
    exact cr_reti C hw dX6_does_80
  have hf := cl_no c1 hf
  by_cases c5 : a1 = 1
  · have hf := cl_yes c5 hf
    refine lv_tableIn (tgt := 81) (off := 80) hx hb dX6_does_1 (by rw [c5]; decide) (by rw [c5]; decide) (by rw [c5]; rfl) (by decide) ?_
    refine lv_aload_n hx hb dX6_does_81 rfl (lv_at hl 0 rfl) ?_
    refine lv_aload_n hx hb dX6_does_82 rfl (lv_at hl 0 rfl) ?_
    refine fg_X6_36 C hw ht0 dX6_does_83 ?_
    refine lv_iconst (v := 0) hx hb dX6_does_86 (by decide) ?_
    refine cr_iald C hw (sh_6_12 ht0).1 (sh_6_12 ht0).2 (by decide) (k := 0) rfl dX6_does_87 ?_
    refine lv_aload_n hx hb dX6_does_88 rfl (lv_at hl 0 rfl) ?_
    refine fg_X6_36 C hw ht0 dX6_does_89 ?_
    refine lv_iconst (v := 1) hx hb dX6_does_92 (by decide) ?_
    refine cr_iald C hw (sh_6_12 ht0).1 (sh_6_12 ht0).2 (by decide) (k := 1) rfl dX6_does_93 ?_
    refine lv_aload_n hx hb dX6_does_94 rfl (lv_at hl 0 rfl) ?_
    refine fg_X6_36 C hw ht0 dX6_does_95 ?_
    refine lv_iconst (v := 2) hx hb dX6_does_98 (by decide) ?_
    refine cr_iald C hw (sh_6_12 ht0).1 (sh_6_12 ht0).2 (by decide) (k := 2) rfl dX6_does_99 ?_
    refine lv_aload_n hx hb dX6_does_100 rfl (lv_at hl 0 rfl) ?_
    refine fg_X6_36 C hw ht0 dX6_does_101 ?_
    refine lv_iconst (v := 3) hx hb dX6_does_104 (by decide) ?_
    refine cr_iald C hw (sh_6_12 ht0).1 (sh_6_12 ht0).2 (by decide) (k := 3) rfl dX6_does_105 ?_
    obtain ⟨v6, M7, e8, hf⟩ := cl_b2_e hf
    refine cr_Vi C hw (c_X6_doHang hlt ht0 e8) cy_X6_doHang vy_X6_doHang ml_X6_255 (cl_lt ht0 (by decide)) (cl_e6 ht0) rfl rfl (As := [.int (M (t0 + 8) 0), .int (M (t0 + 8) 1), .int (M (t0 + 8) 2), .int (M (t0 + 8) 3)]) rfl hl.1 rfl ⟨⟨Nat.le_of_ble_eq_true rfl, Nat.le_of_ble_eq_true rfl⟩, Nat.le_of_ble_eq_true rfl, Nat.le_of_ble_eq_true rfl, Nat.le_of_ble_eq_true rfl⟩ dX6_does_106 (fun H locs hw => ?_)
    obtain ⟨rfl, rfl⟩ := cl_pair hf
    exact cr_reti C hw dX6_does_109
  have hf := cl_no c5 hf
  by_cases c9 : a1 = 2
  · have hf := cl_yes c9 hf
    refine lv_tableIn (tgt := 110) (off := 109) hx hb dX6_does_1 (by rw [c9]; decide) (by rw [c9]; decide) (by rw [c9]; rfl) (by decide) ?_
    refine lv_aload_n hx hb dX6_does_110 rfl (lv_at hl 0 rfl) ?_
    refine lv_aload_n hx hb dX6_does_111 rfl (lv_at hl 0 rfl) ?_
    refine fg_X6_36 C hw ht0 dX6_does_112 ?_
    refine lv_iconst (v := 0) hx hb dX6_does_115 (by decide) ?_
    refine cr_iald C hw (sh_6_12 ht0).1 (sh_6_12 ht0).2 (by decide) (k := 0) rfl dX6_does_116 ?_
    obtain ⟨v10, M11, e12, hf⟩ := cl_b2_e hf
    refine cr_Vi C hw (c_X6_doTake hlt ht0 e12) cy_X6_doTake vy_X6_doTake ml_X6_258 (cl_lt ht0 (by decide)) (cl_e6 ht0) rfl rfl (As := [.int (M (t0 + 8) 0)]) rfl hl.1 rfl ⟨⟨Nat.le_of_ble_eq_true rfl, Nat.le_of_ble_eq_true rfl⟩, Nat.le_of_ble_eq_true rfl, Nat.le_of_ble_eq_true rfl, Nat.le_of_ble_eq_true rfl⟩ dX6_does_117 (fun H locs hw => ?_)
    obtain ⟨rfl, rfl⟩ := cl_pair hf
    exact cr_reti C hw dX6_does_120
  have hf := cl_no c9 hf
  by_cases c13 : a1 = 3
  · have hf := cl_yes c13 hf
    refine lv_tableIn (tgt := 121) (off := 120) hx hb dX6_does_1 (by rw [c13]; decide) (by rw [c13]; decide) (by rw [c13]; rfl) (by decide) ?_
    refine lv_aload_n hx hb dX6_does_121 rfl (lv_at hl 0 rfl) ?_
    refine lv_aload_n hx hb dX6_does_122 rfl (lv_at hl 0 rfl) ?_
    refine fg_X6_36 C hw ht0 dX6_does_123 ?_
    refine lv_iconst (v := 0) hx hb dX6_does_126 (by decide) ?_
    refine cr_iald C hw (sh_6_12 ht0).1 (sh_6_12 ht0).2 (by decide) (k := 0) rfl dX6_does_127 ?_
    obtain ⟨v14, M15, e16, hf⟩ := cl_b2_e hf
    refine cr_Vi C hw (c_X6_doPick hlt ht0 e16) cy_X6_doPick vy_X6_doPick ml_X6_261 (cl_lt ht0 (by decide)) (cl_e6 ht0) rfl rfl (As := [.int (M (t0 + 8) 0)]) rfl hl.1 rfl ⟨⟨Nat.le_of_ble_eq_true rfl, Nat.le_of_ble_eq_true rfl⟩, Nat.le_of_ble_eq_true rfl, Nat.le_of_ble_eq_true rfl, Nat.le_of_ble_eq_true rfl⟩ dX6_does_128 (fun H locs hw => ?_)
    obtain ⟨rfl, rfl⟩ := cl_pair hf
    exact cr_reti C hw dX6_does_131
  have hf := cl_no c13 hf
  by_cases c17 : a1 = 4
  · have hf := cl_yes c17 hf
    refine lv_tableIn (tgt := 132) (off := 131) hx hb dX6_does_1 (by rw [c17]; decide) (by rw [c17]; decide) (by rw [c17]; rfl) (by decide) ?_
    refine lv_aload_n hx hb dX6_does_132 rfl (lv_at hl 0 rfl) ?_
    refine lv_aload_n hx hb dX6_does_133 rfl (lv_at hl 0 rfl) ?_
    refine fg_X6_36 C hw ht0 dX6_does_134 ?_
    refine lv_iconst (v := 0) hx hb dX6_does_137 (by decide) ?_
    refine cr_iald C hw (sh_6_12 ht0).1 (sh_6_12 ht0).2 (by decide) (k := 0) rfl dX6_does_138 ?_
    obtain ⟨v18, M19, e20, hf⟩ := cl_b2_e hf
    refine cr_Vi C hw (c_X6_doWash hlt ht0 e20) cy_X6_doWash vy_X6_doWash ml_X6_264 (cl_lt ht0 (by decide)) (cl_e6 ht0) rfl rfl (As := [.int (M (t0 + 8) 0)]) rfl hl.1 rfl ⟨⟨Nat.le_of_ble_eq_true rfl, Nat.le_of_ble_eq_true rfl⟩, Nat.le_of_ble_eq_true rfl, Nat.le_of_ble_eq_true rfl, Nat.le_of_ble_eq_true rfl⟩ dX6_does_139 (fun H locs hw => ?_)
    obtain ⟨rfl, rfl⟩ := cl_pair hf
    exact cr_reti C hw dX6_does_142
  have hf := cl_no c17 hf
  by_cases c21 : a1 = 5
  · have hf := cl_yes c21 hf
    refine lv_tableIn (tgt := 143) (off := 142) hx hb dX6_does_1 (by rw [c21]; decide) (by rw [c21]; decide) (by rw [c21]; rfl) (by decide) ?_
    refine lv_aload_n hx hb dX6_does_143 rfl (lv_at hl 0 rfl) ?_
    refine lv_aload_n hx hb dX6_does_144 rfl (lv_at hl 0 rfl) ?_
    refine fg_X6_36 C hw ht0 dX6_does_145 ?_
    refine lv_iconst (v := 0) hx hb dX6_does_148 (by decide) ?_
    refine cr_iald C hw (sh_6_12 ht0).1 (sh_6_12 ht0).2 (by decide) (k := 0) rfl dX6_does_149 ?_
    refine lv_aload_n hx hb dX6_does_150 rfl (lv_at hl 0 rfl) ?_
    refine fg_X6_36 C hw ht0 dX6_does_151 ?_
    refine lv_iconst (v := 1) hx hb dX6_does_154 (by decide) ?_
    refine cr_iald C hw (sh_6_12 ht0).1 (sh_6_12 ht0).2 (by decide) (k := 1) rfl dX6_does_155 ?_
    obtain ⟨v22, M23, e24, hf⟩ := cl_b2_e hf
    refine cr_Vi C hw (c_X6_doShift hlt ht0 e24) cy_X6_doShift vy_X6_doShift ml_X6_267 (cl_lt ht0 (by decide)) (cl_e6 ht0) rfl rfl (As := [.int (M (t0 + 8) 0), .int (M (t0 + 8) 1)]) rfl hl.1 rfl ⟨⟨Nat.le_of_ble_eq_true rfl, Nat.le_of_ble_eq_true rfl⟩, Nat.le_of_ble_eq_true rfl, Nat.le_of_ble_eq_true rfl, Nat.le_of_ble_eq_true rfl⟩ dX6_does_156 (fun H locs hw => ?_)
    obtain ⟨rfl, rfl⟩ := cl_pair hf
    exact cr_reti C hw dX6_does_159
  have hf := cl_no c21 hf
  by_cases c25 : a1 = 6
  · have hf := cl_yes c25 hf
    refine lv_tableIn (tgt := 160) (off := 159) hx hb dX6_does_1 (by rw [c25]; decide) (by rw [c25]; decide) (by rw [c25]; rfl) (by decide) ?_
    refine lv_aload_n hx hb dX6_does_160 rfl (lv_at hl 0 rfl) ?_
    refine lv_aload_n hx hb dX6_does_161 rfl (lv_at hl 0 rfl) ?_
    refine fg_X6_36 C hw ht0 dX6_does_162 ?_
    refine lv_iconst (v := 0) hx hb dX6_does_165 (by decide) ?_
    refine cr_iald C hw (sh_6_12 ht0).1 (sh_6_12 ht0).2 (by decide) (k := 0) rfl dX6_does_166 ?_
    refine lv_aload_n hx hb dX6_does_167 rfl (lv_at hl 0 rfl) ?_
    refine fg_X6_36 C hw ht0 dX6_does_168 ?_
    refine lv_iconst (v := 1) hx hb dX6_does_171 (by decide) ?_
    refine cr_iald C hw (sh_6_12 ht0).1 (sh_6_12 ht0).2 (by decide) (k := 1) rfl dX6_does_172 ?_
    refine lv_aload_n hx hb dX6_does_173 rfl (lv_at hl 0 rfl) ?_
    refine fg_X6_36 C hw ht0 dX6_does_174 ?_
    refine lv_iconst (v := 2) hx hb dX6_does_177 (by decide) ?_
    refine cr_iald C hw (sh_6_12 ht0).1 (sh_6_12 ht0).2 (by decide) (k := 2) rfl dX6_does_178 ?_
    obtain ⟨v26, M27, e28, hf⟩ := cl_b2_e hf
    refine cr_Vi C hw (c_X6_doShower hlt ht0 e28) cy_X6_doShower vy_X6_doShower ml_X6_270 (cl_lt ht0 (by decide)) (cl_e6 ht0) rfl rfl (As := [.int (M (t0 + 8) 0), .int (M (t0 + 8) 1), .int (M (t0 + 8) 2)]) rfl hl.1 rfl ⟨⟨Nat.le_of_ble_eq_true rfl, Nat.le_of_ble_eq_true rfl⟩, Nat.le_of_ble_eq_true rfl, Nat.le_of_ble_eq_true rfl, Nat.le_of_ble_eq_true rfl⟩ dX6_does_179 (fun H locs hw => ?_)
    obtain ⟨rfl, rfl⟩ := cl_pair hf
    exact cr_reti C hw dX6_does_182
  have hf := cl_no c25 hf
  by_cases c29 : a1 = 7
  · have hf := cl_yes c29 hf
    refine lv_tableIn (tgt := 183) (off := 182) hx hb dX6_does_1 (by rw [c29]; decide) (by rw [c29]; decide) (by rw [c29]; rfl) (by decide) ?_
    refine lv_aload_n hx hb dX6_does_183 rfl (lv_at hl 0 rfl) ?_
    refine lv_aload_n hx hb dX6_does_184 rfl (lv_at hl 0 rfl) ?_
    refine fg_X6_36 C hw ht0 dX6_does_185 ?_
    refine lv_iconst (v := 0) hx hb dX6_does_188 (by decide) ?_
    refine cr_iald C hw (sh_6_12 ht0).1 (sh_6_12 ht0).2 (by decide) (k := 0) rfl dX6_does_189 ?_
    refine lv_aload_n hx hb dX6_does_190 rfl (lv_at hl 0 rfl) ?_
    refine fg_X6_36 C hw ht0 dX6_does_191 ?_
    refine lv_iconst (v := 1) hx hb dX6_does_194 (by decide) ?_
    refine cr_iald C hw (sh_6_12 ht0).1 (sh_6_12 ht0).2 (by decide) (k := 1) rfl dX6_does_195 ?_
    obtain ⟨v30, M31, e32, hf⟩ := cl_b2_e hf
    refine cr_Vi C hw (c_X6_doSmoke hlt ht0 e32) cy_X6_doSmoke vy_X6_doSmoke ml_X6_274 (cl_lt ht0 (by decide)) (cl_e6 ht0) rfl rfl (As := [.int (M (t0 + 8) 0), .int (M (t0 + 8) 1)]) rfl hl.1 rfl ⟨⟨Nat.le_of_ble_eq_true rfl, Nat.le_of_ble_eq_true rfl⟩, Nat.le_of_ble_eq_true rfl, Nat.le_of_ble_eq_true rfl, Nat.le_of_ble_eq_true rfl⟩ dX6_does_196 (fun H locs hw => ?_)
    obtain ⟨rfl, rfl⟩ := cl_pair hf
    exact cr_reti C hw dX6_does_199
  have hf := cl_no c29 hf
  by_cases c33 : a1 = 8
  · have hf := cl_yes c33 hf
    refine lv_tableIn (tgt := 200) (off := 199) hx hb dX6_does_1 (by rw [c33]; decide) (by rw [c33]; decide) (by rw [c33]; rfl) (by decide) ?_
    refine lv_aload_n hx hb dX6_does_200 rfl (lv_at hl 0 rfl) ?_
    refine lv_aload_n hx hb dX6_does_201 rfl (lv_at hl 0 rfl) ?_
    refine fg_X6_36 C hw ht0 dX6_does_202 ?_
    refine lv_iconst (v := 0) hx hb dX6_does_205 (by decide) ?_
    refine cr_iald C hw (sh_6_12 ht0).1 (sh_6_12 ht0).2 (by decide) (k := 0) rfl dX6_does_206 ?_
    refine lv_aload_n hx hb dX6_does_207 rfl (lv_at hl 0 rfl) ?_
    refine fg_X6_36 C hw ht0 dX6_does_208 ?_
    refine lv_iconst (v := 1) hx hb dX6_does_211 (by decide) ?_
    refine cr_iald C hw (sh_6_12 ht0).1 (sh_6_12 ht0).2 (by decide) (k := 1) rfl dX6_does_212 ?_
    obtain ⟨v34, M35, e36, hf⟩ := cl_b2_e hf
    refine cr_Vi C hw (c_X6_doWind hlt ht0 e36) cy_X6_doWind vy_X6_doWind ml_X6_277 (cl_lt ht0 (by decide)) (cl_e6 ht0) rfl rfl (As := [.int (M (t0 + 8) 0), .int (M (t0 + 8) 1)]) rfl hl.1 rfl ⟨⟨Nat.le_of_ble_eq_true rfl, Nat.le_of_ble_eq_true rfl⟩, Nat.le_of_ble_eq_true rfl, Nat.le_of_ble_eq_true rfl, Nat.le_of_ble_eq_true rfl⟩ dX6_does_213 (fun H locs hw => ?_)
    obtain ⟨rfl, rfl⟩ := cl_pair hf
    exact cr_reti C hw dX6_does_216
  have hf := cl_no c33 hf
  have qc1 := lv_neT c1 (a := 0) (by decide)
  have qc5 := lv_neT c5 (a := 1) (by decide)
  have qc9 := lv_neT c9 (a := 2) (by decide)
  have qc13 := lv_neT c13 (a := 3) (by decide)
  have qc17 := lv_neT c17 (a := 4) (by decide)
  have qc21 := lv_neT c21 (a := 5) (by decide)
  have qc25 := lv_neT c25 (a := 6) (by decide)
  have qc29 := lv_neT c29 (a := 7) (by decide)
  have qc33 := lv_neT c33 (a := 8) (by decide)
  refine lv_tableOut (tgt := 217) hx hb dX6_does_1 (by omega) (by decide) ?_
  refine lv_aload_n hx hb dX6_does_217 rfl (lv_at hl 0 rfl) ?_
  refine lv_aload_n hx hb dX6_does_218 rfl (lv_at hl 0 rfl) ?_
  refine fg_X6_36 C hw ht0 dX6_does_219 ?_
  refine lv_iconst (v := 0) hx hb dX6_does_222 (by decide) ?_
  refine cr_iald C hw (sh_6_12 ht0).1 (sh_6_12 ht0).2 (by decide) (k := 0) rfl dX6_does_223 ?_
  obtain ⟨v37, M38, e39, hf⟩ := cl_b2_e hf
  refine cr_Vi C hw (c_X6_passAll hlt ht0 e39) cy_X6_passAll vy_X6_passAll ml_X6_280 (cl_lt ht0 (by decide)) (cl_e6 ht0) rfl rfl (As := [.int (M (t0 + 8) 0)]) rfl hl.1 rfl ⟨⟨Nat.le_of_ble_eq_true rfl, Nat.le_of_ble_eq_true rfl⟩, Nat.le_of_ble_eq_true rfl, Nat.le_of_ble_eq_true rfl, Nat.le_of_ble_eq_true rfl⟩ dX6_does_224 (fun H locs hw => ?_)
  obtain ⟨rfl, rfl⟩ := cl_pair hf
  exact cr_reti C hw dX6_does_227
set_option maxRecDepth 100000 in
theorem c_X6_does {l : Launch} {dd : cl_D} {b : Nat} (hlt : l.stackTraces = false) {M : cl_M} {t0 : Nat} {a1 : Int32}  {r : Int32} {M' : cl_M} (ht0 : cl_sh dd t0 = 6) (h : f_X6_does M t0 a1 = some (r, M')) : cl_Mi l dd b yX6_does cX6_does 2 (some .int) 6 138 [.ref (b + t0), .int a1] M r M' :=
  cl_of hlt (by decide) (Nat.le_of_ble_eq_true rfl) (fun p e s m below meth c ls C hw hl => k_X6_does C M t0 a1 r M' h _ _ _ ht0 hw (lv_sub hl [0, 1] rfl))
theorem cy_X6_does : cl_cy yX6_does cX6_does 2 (some .int) 1 := ⟨in_ClothesLineModel, cd_X6_does, by decide +kernel, by decide +kernel, by decide +kernel⟩
theorem vy_X6_does : cl_vy yX6_does := ⟨im_X6_does, se_X6_does⟩
def f_X6_commandText (M : cl_M) (t0 : Nat) (a1 : Int32) : Option (Int32 × cl_M) := (f_X6_next M t0).bind (fun M1 => cl_b2 (f_X6_argumentsText M1 t0 a1) (fun v3 M4 => if v3 = 0 then some (0, M4) else cl_b2 (f_X6_isEnd M4 t0) (fun v7 M8 => if v7 = 0 then some (0, M8) else (f_X6_isPossible M8 t0 a1).bind (fun v11 => if v11 = 0 then cl_b2 (f_X6_wrong M8 t0 3) (fun v17 M18 => if cl_bz v17 = true then some (v17, M18) else none) else cl_b2 (f_X6_does M8 t0 a1) (fun v14 M15 => some (1, M15))))))
set_option maxHeartbeats 4000000 in
set_option maxRecDepth 100000 in
theorem k_X6_commandText {p : Program} {l : Launch} {e : Env} {s : State} {m : MethodId} {args : Array Value} {below : List Frame} {meth : Method} {c : Code} {dd : cl_D} {b : Nat} (C : cl_C p l s m args meth c cX6_commandText RX6 3 (some .boolean) dd b) : ∀ (M : cl_M) (t0 : Nat) (a1 : Int32) (r : Int32) (M' : cl_M), f_X6_commandText M t0 a1 = some (r, M') → ∀ (H : Heap) (locs : List Loc) (ls : Array Slot), cl_sh dd t0 = 6 → cl_H dd b M s H locs → lv_has ls 3 [(0, .ref (b + t0)), (1, .int a1)] → W p l e { frames := 7, cells := 0, slots := 0, locals := 159 } s m args below meth c H locs 0 0 (cl_Zi below args s dd b r M') (F0 m 0 ls []) := by
  have hx := C.1
  have hb := C.2.1
  have hlt := C.2.2.2.2.2.2.2.2.2.2
  have hRr := C.2.2.2.2.2.2.2.2.2.1
  intro M t0 a1 r M' hf H locs ls ht0 hw hl
  unfold f_X6_commandText at hf
  refine lv_aload_n hx hb dX6_commandText_0 rfl (lv_at hl 0 rfl) ?_
  obtain ⟨M1, e2, hf⟩ := cl_bind_e hf
  refine cr_Vv C hw (c_X6_next hlt ht0 e2) cy_X6_next vy_X6_next ml_X6_189 (cl_lt ht0 (by decide)) (cl_e6 ht0) rfl rfl (As := []) rfl hl.1 rfl ⟨⟨Nat.le_of_ble_eq_true rfl, Nat.le_of_ble_eq_true rfl⟩, Nat.le_of_ble_eq_true rfl, Nat.le_of_ble_eq_true rfl, Nat.le_of_ble_eq_true rfl⟩ dX6_commandText_1 (fun H locs hw => ?_)
  refine lv_aload_n hx hb dX6_commandText_4 rfl (lv_at hl 0 rfl) ?_
  refine lv_iload_n hx hb dX6_commandText_5 rfl (lv_at hl 1 rfl) ?_
  obtain ⟨v3, M4, e5, hf⟩ := cl_b2_e hf
  refine cr_Vi C hw (c_X6_argumentsText hlt ht0 e5) cy_X6_argumentsText vy_X6_argumentsText ml_X6_283 (cl_lt ht0 (by decide)) (cl_e6 ht0) rfl rfl (As := [.int a1]) rfl hl.1 rfl ⟨⟨Nat.le_of_ble_eq_true rfl, Nat.le_of_ble_eq_true rfl⟩, Nat.le_of_ble_eq_true rfl, Nat.le_of_ble_eq_true rfl, Nat.le_of_ble_eq_true rfl⟩ dX6_commandText_6 (fun H locs hw => ?_)
  refine lv_if_eq (tgt := 19) hx hb dX6_commandText_9 (by decide) (fun c6 => ?_) (fun c6 => ?_)
  · have hf := cl_yes c6 hf
    refine lv_iconst (v := 0) hx hb dX6_commandText_19 (by decide) ?_
    obtain ⟨rfl, rfl⟩ := cl_pair hf
    exact cr_retz C hw (by decide) dX6_commandText_20
  · have hf := cl_no c6 hf
    refine lv_aload_n hx hb dX6_commandText_12 rfl (lv_at hl 0 rfl) ?_
    obtain ⟨v7, M8, e9, hf⟩ := cl_b2_e hf
    refine cr_Vi C hw (c_X6_isEnd hlt ht0 e9) cy_X6_isEnd vy_X6_isEnd ml_X6_192 (cl_lt ht0 (by decide)) (cl_e6 ht0) rfl rfl (As := []) rfl hl.1 rfl ⟨⟨Nat.le_of_ble_eq_true rfl, Nat.le_of_ble_eq_true rfl⟩, Nat.le_of_ble_eq_true rfl, Nat.le_of_ble_eq_true rfl, Nat.le_of_ble_eq_true rfl⟩ dX6_commandText_13 (fun H locs hw => ?_)
    refine lv_if_ne (tgt := 21) hx hb dX6_commandText_16 (by decide) (fun c10 => ?_) (fun c10 => ?_)
    · have hf := cl_no c10 hf
      refine lv_aload_n hx hb dX6_commandText_21 rfl (lv_at hl 0 rfl) ?_
      refine lv_iload_n hx hb dX6_commandText_22 rfl (lv_at hl 1 rfl) ?_
      obtain ⟨v11, e12, hf⟩ := cl_bind_e hf
      refine cr_Vi C hw (c_X6_isPossible hlt ht0 e12) cy_X6_isPossible vy_X6_isPossible ml_X6_286 (cl_lt ht0 (by decide)) (cl_e6 ht0) rfl rfl (As := [.int a1]) rfl hl.1 rfl ⟨⟨Nat.le_of_ble_eq_true rfl, Nat.le_of_ble_eq_true rfl⟩, Nat.le_of_ble_eq_true rfl, Nat.le_of_ble_eq_true rfl, Nat.le_of_ble_eq_true rfl⟩ dX6_commandText_23 (fun H locs hw => ?_)
      refine lv_if_ne (tgt := 35) hx hb dX6_commandText_26 (by decide) (fun c13 => ?_) (fun c13 => ?_)
      · have hf := cl_no c13 hf
        refine lv_aload_n hx hb dX6_commandText_35 rfl (lv_at hl 0 rfl) ?_
        refine lv_iload_n hx hb dX6_commandText_36 rfl (lv_at hl 1 rfl) ?_
        obtain ⟨v14, M15, e16, hf⟩ := cl_b2_e hf
        refine cr_Vi C hw (c_X6_does hlt ht0 e16) cy_X6_does vy_X6_does ml_X6_289 (cl_lt ht0 (by decide)) (cl_e6 ht0) rfl rfl (As := [.int a1]) rfl hl.1 rfl ⟨⟨Nat.le_of_ble_eq_true rfl, Nat.le_of_ble_eq_true rfl⟩, Nat.le_of_ble_eq_true rfl, Nat.le_of_ble_eq_true rfl, Nat.le_of_ble_eq_true rfl⟩ dX6_commandText_37 (fun H locs hw => ?_)
        refine lv_istore_n (lv' := [(2, .int v14), (0, .ref (b + t0)), (1, .int a1)]) hx hb dX6_commandText_40 rfl hl (by decide) rfl (fun ls hl => ?_)
        refine lv_iconst (v := 1) hx hb dX6_commandText_41 (by decide) ?_
        obtain ⟨rfl, rfl⟩ := cl_pair hf
        exact cr_retz C hw (by decide) dX6_commandText_42
      · have hf := cl_yes c13 hf
        refine lv_aload_n hx hb dX6_commandText_29 rfl (lv_at hl 0 rfl) ?_
        refine lv_iconst (v := 3) hx hb dX6_commandText_30 (by decide) ?_
        obtain ⟨v17, M18, e19, hf⟩ := cl_b2_e hf
        refine cr_Vi C hw (c_X6_wrong hlt ht0 e19) cy_X6_wrong vy_X6_wrong ml_X6_186 (cl_lt ht0 (by decide)) (cl_e6 ht0) rfl rfl (As := [.int 3]) rfl hl.1 rfl ⟨⟨Nat.le_of_ble_eq_true rfl, Nat.le_of_ble_eq_true rfl⟩, Nat.le_of_ble_eq_true rfl, Nat.le_of_ble_eq_true rfl, Nat.le_of_ble_eq_true rfl⟩ dX6_commandText_31 (fun H locs hw => ?_)
        obtain ⟨q20, hf⟩ := cl_grd hf
        obtain ⟨rfl, rfl⟩ := cl_pair hf
        exact cr_retz C hw q20 dX6_commandText_34
    · have hf := cl_yes c10 hf
      refine lv_iconst (v := 0) hx hb dX6_commandText_19 (by decide) ?_
      obtain ⟨rfl, rfl⟩ := cl_pair hf
      exact cr_retz C hw (by decide) dX6_commandText_20
set_option maxRecDepth 100000 in
theorem c_X6_commandText {l : Launch} {dd : cl_D} {b : Nat} (hlt : l.stackTraces = false) {M : cl_M} {t0 : Nat} {a1 : Int32}  {r : Int32} {M' : cl_M} (ht0 : cl_sh dd t0 = 6) (h : f_X6_commandText M t0 a1 = some (r, M')) : cl_Mi l dd b yX6_commandText cX6_commandText 3 (some .boolean) 7 159 [.ref (b + t0), .int a1] M r M' :=
  cl_of hlt (by decide) (Nat.le_of_ble_eq_true rfl) (fun p e s m below meth c ls C hw hl => k_X6_commandText C M t0 a1 r M' h _ _ _ ht0 hw (lv_sub hl [0, 1] rfl))
theorem cy_X6_commandText : cl_cy yX6_commandText cX6_commandText 3 (some .boolean) 1 := ⟨in_ClothesLineModel, cd_X6_commandText, by decide +kernel, by decide +kernel, by decide +kernel⟩
theorem vy_X6_commandText : cl_vy yX6_commandText := ⟨im_X6_commandText, se_X6_commandText⟩
def f_X6_commandsText_55 (r2 : cl_M → Nat → Int32 → Option (Int32 × cl_M)) (M : cl_M) (t0 : Nat) (a1 : Int32) (z0 : Int32) : Option (Int32 × cl_M) := if z0 = 0 then some ((-1), M) else cl_b2 (f_X6_semicolon M t0) (fun v12 M13 => if v12 = 0 then some ((-1), M13) else cl_let (a1 + 1) (fun v16 => r2 M13 t0 v16))
set_option maxHeartbeats 4000000 in
set_option maxRecDepth 100000 in
theorem k_X6_commandsText_55 {p : Program} {l : Launch} {e : Env} {s : State} {m : MethodId} {args : Array Value} {below : List Frame} {meth : Method} {c : Code} {dd : cl_D} {b : Nat} (C : cl_C p l s m args meth c cX6_commandsText RX6 4 (some .int) dd b) {r2 : cl_M → Nat → Int32 → Option (Int32 × cl_M)} (hr2 : ∀ (M : cl_M) (t0 : Nat) (a1 : Int32) (r : Int32) (M' : cl_M), r2 M t0 a1 = some (r, M') → ∀ (H : Heap) (locs : List Loc) (ls : Array Slot), cl_sh dd t0 = 6 → cl_H dd b M s H locs → lv_has ls 4 [(0, .ref (b + t0)), (1, .int a1)] → W p l e { frames := 8, cells := 0, slots := 0, locals := 181 } s m args below meth c H locs 0 0 (cl_Zi below args s dd b r M') (F0 m 2 ls [])) : ∀ (M : cl_M) (t0 : Nat) (a1 : Int32) (z0 : Int32) (r : Int32) (M' : cl_M), f_X6_commandsText_55 r2 M t0 a1 z0 = some (r, M') → ∀ (H : Heap) (locs : List Loc) (ls : Array Slot), cl_sh dd t0 = 6 → cl_H dd b M s H locs → lv_has ls 4 [(0, .ref (b + t0)), (1, .int a1)] → W p l e { frames := 8, cells := 0, slots := 0, locals := 181 } s m args below meth c H locs 0 0 (cl_Zi below args s dd b r M') (F0 m 55 ls [.int z0]) := by
  have hx := C.1
  have hb := C.2.1
  have hlt := C.2.2.2.2.2.2.2.2.2.2
  have hRr := C.2.2.2.2.2.2.2.2.2.1
  intro M t0 a1 z0 r M' hf H locs ls ht0 hw hl
  unfold f_X6_commandsText_55 at hf
  refine lv_istore_n (lv' := [(3, .int z0), (0, .ref (b + t0)), (1, .int a1)]) hx hb dX6_commandsText_55 rfl hl (by decide) rfl (fun ls hl => ?_)
  refine lv_iload_n hx hb dX6_commandsText_56 rfl (lv_at hl 0 rfl) ?_
  refine lv_if_eq (tgt := 67) hx hb dX6_commandsText_57 (by decide) (fun c11 => ?_) (fun c11 => ?_)
  · have hf := cl_yes c11 hf
    refine lv_iconst (v := (-1)) hx hb dX6_commandsText_67 (by decide) ?_
    obtain ⟨rfl, rfl⟩ := cl_pair hf
    exact cr_reti C hw dX6_commandsText_68
  · have hf := cl_no c11 hf
    refine lv_aload_n hx hb dX6_commandsText_60 rfl (lv_at hl 1 rfl) ?_
    obtain ⟨v12, M13, e14, hf⟩ := cl_b2_e hf
    refine cr_Vi C hw (c_X6_semicolon hlt ht0 e14) cy_X6_semicolon vy_X6_semicolon ml_X6_207 (cl_lt ht0 (by decide)) (cl_e6 ht0) rfl rfl (As := []) rfl hl.1 rfl ⟨⟨Nat.le_of_ble_eq_true rfl, Nat.le_of_ble_eq_true rfl⟩, Nat.le_of_ble_eq_true rfl, Nat.le_of_ble_eq_true rfl, Nat.le_of_ble_eq_true rfl⟩ dX6_commandsText_61 (fun H locs hw => ?_)
    refine lv_if_ne (tgt := 69) hx hb dX6_commandsText_64 (by decide) (fun c15 => ?_) (fun c15 => ?_)
    · have hf := cl_no c15 hf
      obtain ⟨v16, ev16, hf⟩ := cl_let_e hf
      refine lv_iinc (v := v16) (lv' := [(1, .int v16), (3, .int z0), (0, .ref (b + t0))]) hx hb dX6_commandsText_69 hl (k := 2) rfl (by rw [ev16]; rfl) (by decide) rfl (fun ls hl => ?_)
      refine lv_goto (tgt := 2) hx hb dX6_commandsText_72 (by decide) ?_
      exact hr2 M13 t0 v16 _ _ hf _ _ _ ht0 hw (lv_sub hl [2, 0] rfl)
    · have hf := cl_yes c15 hf
      refine lv_iconst (v := (-1)) hx hb dX6_commandsText_67 (by decide) ?_
      obtain ⟨rfl, rfl⟩ := cl_pair hf
      exact cr_reti C hw dX6_commandsText_68
def f_X6_commandsText_42 (r2 : cl_M → Nat → Int32 → Option (Int32 × cl_M)) (M : cl_M) (t0 : Nat) (a1 : Int32) : Option (Int32 × cl_M) := cl_b2 (f_X6_wrong M t0 4) (fun v8 M9 => f_X6_commandsText_55 r2 M9 t0 a1 v8)
set_option maxHeartbeats 4000000 in
set_option maxRecDepth 100000 in
theorem k_X6_commandsText_42 {p : Program} {l : Launch} {e : Env} {s : State} {m : MethodId} {args : Array Value} {below : List Frame} {meth : Method} {c : Code} {dd : cl_D} {b : Nat} (C : cl_C p l s m args meth c cX6_commandsText RX6 4 (some .int) dd b) {r2 : cl_M → Nat → Int32 → Option (Int32 × cl_M)} (hr2 : ∀ (M : cl_M) (t0 : Nat) (a1 : Int32) (r : Int32) (M' : cl_M), r2 M t0 a1 = some (r, M') → ∀ (H : Heap) (locs : List Loc) (ls : Array Slot), cl_sh dd t0 = 6 → cl_H dd b M s H locs → lv_has ls 4 [(0, .ref (b + t0)), (1, .int a1)] → W p l e { frames := 8, cells := 0, slots := 0, locals := 181 } s m args below meth c H locs 0 0 (cl_Zi below args s dd b r M') (F0 m 2 ls [])) : ∀ (M : cl_M) (t0 : Nat) (a1 : Int32) (r : Int32) (M' : cl_M), f_X6_commandsText_42 r2 M t0 a1 = some (r, M') → ∀ (H : Heap) (locs : List Loc) (ls : Array Slot), cl_sh dd t0 = 6 → cl_H dd b M s H locs → lv_has ls 4 [(0, .ref (b + t0)), (1, .int a1)] → W p l e { frames := 8, cells := 0, slots := 0, locals := 181 } s m args below meth c H locs 0 0 (cl_Zi below args s dd b r M') (F0 m 42 ls []) := by
  have hx := C.1
  have hb := C.2.1
  have hlt := C.2.2.2.2.2.2.2.2.2.2
  have hRr := C.2.2.2.2.2.2.2.2.2.1
  intro M t0 a1 r M' hf H locs ls ht0 hw hl
  unfold f_X6_commandsText_42 at hf
  refine lv_aload_n hx hb dX6_commandsText_42 rfl (lv_at hl 0 rfl) ?_
  refine lv_iconst (v := 4) hx hb dX6_commandsText_43 (by decide) ?_
  obtain ⟨v8, M9, e10, hf⟩ := cl_b2_e hf
  refine cr_Vi C hw (c_X6_wrong hlt ht0 e10) cy_X6_wrong vy_X6_wrong ml_X6_186 (cl_lt ht0 (by decide)) (cl_e6 ht0) rfl rfl (As := [.int 4]) rfl hl.1 rfl ⟨⟨Nat.le_of_ble_eq_true rfl, Nat.le_of_ble_eq_true rfl⟩, Nat.le_of_ble_eq_true rfl, Nat.le_of_ble_eq_true rfl, Nat.le_of_ble_eq_true rfl⟩ dX6_commandsText_44 (fun H locs hw => ?_)
  refine lv_goto (tgt := 55) hx hb dX6_commandsText_47 (by decide) ?_
  exact k_X6_commandsText_55 C hr2 M9 t0 a1 v8 _ _ hf _ _ _ ht0 hw (lv_sub hl [0, 1] rfl)
def f_X6_commandsText_2 : Nat → cl_M → Nat → Int32 → Option (Int32 × cl_M)
  | 0, _, _, _ => none
  | k + 1, M, t0, a1 => if (M t0 15) = 4 then some (a1, M) else (f_X6_commandHere M t0).bind (fun v2 => if v2 = (-1) then cl_b2 (f_X6_wrong M t0 1) (fun v21 M22 => f_X6_commandsText_55 (f_X6_commandsText_2 k) M22 t0 a1 v21) else (f_X6_isFull M t0 v2).bind (fun v5 => if v5 = 0 then if a1 = 40 then f_X6_commandsText_42 (f_X6_commandsText_2 k) M t0 a1 else cl_b2 (f_X6_commandText M t0 v2) (fun v18 M19 => f_X6_commandsText_55 (f_X6_commandsText_2 k) M19 t0 a1 v18) else f_X6_commandsText_42 (f_X6_commandsText_2 k) M t0 a1))
set_option maxHeartbeats 4000000 in
set_option maxRecDepth 100000 in
theorem k_X6_commandsText_2 {p : Program} {l : Launch} {e : Env} {s : State} {m : MethodId} {args : Array Value} {below : List Frame} {meth : Method} {c : Code} {dd : cl_D} {b : Nat} (C : cl_C p l s m args meth c cX6_commandsText RX6 4 (some .int) dd b) : ∀ (k : Nat), ∀ (M : cl_M) (t0 : Nat) (a1 : Int32) (r : Int32) (M' : cl_M), f_X6_commandsText_2 k M t0 a1 = some (r, M') → ∀ (H : Heap) (locs : List Loc) (ls : Array Slot), cl_sh dd t0 = 6 → cl_H dd b M s H locs → lv_has ls 4 [(0, .ref (b + t0)), (1, .int a1)] → W p l e { frames := 8, cells := 0, slots := 0, locals := 181 } s m args below meth c H locs 0 0 (cl_Zi below args s dd b r M') (F0 m 2 ls []) := by
  have hx := C.1
  have hb := C.2.1
  have hlt := C.2.2.2.2.2.2.2.2.2.2
  have hRr := C.2.2.2.2.2.2.2.2.2.1
  intro k
  induction k with
  | zero =>
    intro M t0 a1 r M' hf H locs ls ht0 hw hl
    rw [f_X6_commandsText_2] at hf
    cases hf
  | succ k ih =>
    intro M t0 a1 r M' hf H locs ls ht0 hw hl
    rw [f_X6_commandsText_2] at hf
    refine lv_aload_n hx hb dX6_commandsText_2 rfl (lv_at hl 0 rfl) ?_
    refine fg_X6_166 C hw ht0 dX6_commandsText_3 ?_
    refine lv_iconst (v := 4) hx hb dX6_commandsText_6 (by decide) ?_
    refine lv_icmp_eq (tgt := 75) hx hb dX6_commandsText_7 (by decide) (fun c1 => ?_) (fun c1 => ?_)
    · have hf := cl_yes c1 hf
      refine lv_iload_n hx hb dX6_commandsText_75 rfl (lv_at hl 1 rfl) ?_
      obtain ⟨rfl, rfl⟩ := cl_pair hf
      exact cr_reti C hw dX6_commandsText_76
    · have hf := cl_no c1 hf
      refine lv_aload_n hx hb dX6_commandsText_10 rfl (lv_at hl 0 rfl) ?_
      obtain ⟨v2, e3, hf⟩ := cl_bind_e hf
      refine cr_Vi C hw (c_X6_commandHere hlt ht0 e3) cy_X6_commandHere vy_X6_commandHere ml_X6_233 (cl_lt ht0 (by decide)) (cl_e6 ht0) rfl rfl (As := []) rfl hl.1 rfl ⟨⟨Nat.le_of_ble_eq_true rfl, Nat.le_of_ble_eq_true rfl⟩, Nat.le_of_ble_eq_true rfl, Nat.le_of_ble_eq_true rfl, Nat.le_of_ble_eq_true rfl⟩ dX6_commandsText_11 (fun H locs hw => ?_)
      refine lv_istore_n (lv' := [(2, .int v2), (0, .ref (b + t0)), (1, .int a1)]) hx hb dX6_commandsText_14 rfl hl (by decide) rfl (fun ls hl => ?_)
      refine lv_iload_n hx hb dX6_commandsText_15 rfl (lv_at hl 0 rfl) ?_
      refine lv_iconst (v := (-1)) hx hb dX6_commandsText_16 (by decide) ?_
      refine lv_icmp_ne (tgt := 28) hx hb dX6_commandsText_17 (by decide) (fun c4 => ?_) (fun c4 => ?_)
      · have hf := cl_no c4 hf
        refine lv_aload_n hx hb dX6_commandsText_28 rfl (lv_at hl 1 rfl) ?_
        refine lv_iload_n hx hb dX6_commandsText_29 rfl (lv_at hl 0 rfl) ?_
        obtain ⟨v5, e6, hf⟩ := cl_bind_e hf
        refine cr_Vi C hw (c_X6_isFull hlt ht0 e6) cy_X6_isFull vy_X6_isFull ml_X6_236 (cl_lt ht0 (by decide)) (cl_e6 ht0) rfl rfl (As := [.int v2]) rfl hl.1 rfl ⟨⟨Nat.le_of_ble_eq_true rfl, Nat.le_of_ble_eq_true rfl⟩, Nat.le_of_ble_eq_true rfl, Nat.le_of_ble_eq_true rfl, Nat.le_of_ble_eq_true rfl⟩ dX6_commandsText_30 (fun H locs hw => ?_)
        refine lv_if_ne (tgt := 42) hx hb dX6_commandsText_33 (by decide) (fun c7 => ?_) (fun c7 => ?_)
        · have hf := cl_no c7 hf
          exact k_X6_commandsText_42 C ih M t0 a1 _ _ hf _ _ _ ht0 hw (lv_sub hl [1, 2] rfl)
        · have hf := cl_yes c7 hf
          refine lv_iload_n hx hb dX6_commandsText_36 rfl (lv_at hl 2 rfl) ?_
          refine lv_bipush (v := 40) hx hb dX6_commandsText_37 (by decide) ?_
          refine lv_icmp_ne (tgt := 50) hx hb dX6_commandsText_39 (by decide) (fun c17 => ?_) (fun c17 => ?_)
          · have hf := cl_no c17 hf
            refine lv_aload_n hx hb dX6_commandsText_50 rfl (lv_at hl 1 rfl) ?_
            refine lv_iload_n hx hb dX6_commandsText_51 rfl (lv_at hl 0 rfl) ?_
            obtain ⟨v18, M19, e20, hf⟩ := cl_b2_e hf
            refine cr_Vi C hw (c_X6_commandText hlt ht0 e20) cy_X6_commandText vy_X6_commandText ml_X6_239 (cl_lt ht0 (by decide)) (cl_e6 ht0) rfl rfl (As := [.int v2]) rfl hl.1 rfl ⟨⟨Nat.le_of_ble_eq_true rfl, Nat.le_of_ble_eq_true rfl⟩, Nat.le_of_ble_eq_true rfl, Nat.le_of_ble_eq_true rfl, Nat.le_of_ble_eq_true rfl⟩ dX6_commandsText_52 (fun H locs hw => ?_)
            exact k_X6_commandsText_55 C ih M19 t0 a1 v18 _ _ hf _ _ _ ht0 hw (lv_sub hl [1, 2] rfl)
          · have hf := cl_yes c17 hf
            exact k_X6_commandsText_42 C ih M t0 a1 _ _ hf _ _ _ ht0 hw (lv_sub hl [1, 2] rfl)
      · have hf := cl_yes c4 hf
        refine lv_aload_n hx hb dX6_commandsText_20 rfl (lv_at hl 1 rfl) ?_
        refine lv_iconst (v := 1) hx hb dX6_commandsText_21 (by decide) ?_
        obtain ⟨v21, M22, e23, hf⟩ := cl_b2_e hf
        refine cr_Vi C hw (c_X6_wrong hlt ht0 e23) cy_X6_wrong vy_X6_wrong ml_X6_186 (cl_lt ht0 (by decide)) (cl_e6 ht0) rfl rfl (As := [.int 1]) rfl hl.1 rfl ⟨⟨Nat.le_of_ble_eq_true rfl, Nat.le_of_ble_eq_true rfl⟩, Nat.le_of_ble_eq_true rfl, Nat.le_of_ble_eq_true rfl, Nat.le_of_ble_eq_true rfl⟩ dX6_commandsText_22 (fun H locs hw => ?_)
        refine lv_goto (tgt := 55) hx hb dX6_commandsText_25 (by decide) ?_
        exact k_X6_commandsText_55 C ih M22 t0 a1 v21 _ _ hf _ _ _ ht0 hw (lv_sub hl [1, 2] rfl)
def f_X6_commandsText (M : cl_M) (t0 : Nat) : Option (Int32 × cl_M) := f_X6_commandsText_2 cl_F M t0 0
set_option maxHeartbeats 4000000 in
set_option maxRecDepth 100000 in
theorem k_X6_commandsText {p : Program} {l : Launch} {e : Env} {s : State} {m : MethodId} {args : Array Value} {below : List Frame} {meth : Method} {c : Code} {dd : cl_D} {b : Nat} (C : cl_C p l s m args meth c cX6_commandsText RX6 4 (some .int) dd b) : ∀ (M : cl_M) (t0 : Nat) (r : Int32) (M' : cl_M), f_X6_commandsText M t0 = some (r, M') → ∀ (H : Heap) (locs : List Loc) (ls : Array Slot), cl_sh dd t0 = 6 → cl_H dd b M s H locs → lv_has ls 4 [(0, .ref (b + t0))] → W p l e { frames := 8, cells := 0, slots := 0, locals := 181 } s m args below meth c H locs 0 0 (cl_Zi below args s dd b r M') (F0 m 0 ls []) := by
  have hx := C.1
  have hb := C.2.1
  have hlt := C.2.2.2.2.2.2.2.2.2.2
  have hRr := C.2.2.2.2.2.2.2.2.2.1
  intro M t0 r M' hf H locs ls ht0 hw hl
  unfold f_X6_commandsText at hf
  refine lv_iconst (v := 0) hx hb dX6_commandsText_0 (by decide) ?_
  refine lv_istore_n (lv' := [(1, .int 0), (0, .ref (b + t0))]) hx hb dX6_commandsText_1 rfl hl (by decide) rfl (fun ls hl => ?_)
  exact k_X6_commandsText_2 C cl_F M t0 0 _ _ hf _ _ _ ht0 hw (lv_sub hl [1, 0] rfl)
set_option maxRecDepth 100000 in
theorem c_X6_commandsText {l : Launch} {dd : cl_D} {b : Nat} (hlt : l.stackTraces = false) {M : cl_M} {t0 : Nat}  {r : Int32} {M' : cl_M} (ht0 : cl_sh dd t0 = 6) (h : f_X6_commandsText M t0 = some (r, M')) : cl_Mi l dd b yX6_commandsText cX6_commandsText 4 (some .int) 8 181 [.ref (b + t0)] M r M' :=
  cl_of hlt (by decide) (Nat.le_of_ble_eq_true rfl) (fun p e s m below meth c ls C hw hl => k_X6_commandsText C M t0 r M' h _ _ _ ht0 hw (lv_sub hl [0] rfl))
theorem cy_X6_commandsText : cl_cy yX6_commandsText cX6_commandsText 4 (some .int) 0 := ⟨in_ClothesLineModel, cd_X6_commandsText, by decide +kernel, by decide +kernel, by decide +kernel⟩
theorem vy_X6_commandsText : cl_vy yX6_commandsText := ⟨im_X6_commandsText, se_X6_commandsText⟩
def f_X6_setupText_115 (r98 : cl_M → Nat → Option (Int32 × cl_M)) (M : cl_M) (t0 : Nat) : Option (Int32 × cl_M) := cl_b2 (f_X6_numberIn M t0 0 5) (fun v29 M30 => if v29 = 0 then some (0, M30) else if (M30 (t0 + 2) 4) = 8 then cl_b2 (f_X6_wrong M30 t0 4) (fun v39 M40 => if cl_bz v39 = true then some (v39, M40) else none) else if cl_inb (11 + (M30 (t0 + 2) 4)) 149 = true then cl_let (cl_ms M30 (t0 + 2) (11 + (M30 (t0 + 2) 4)).toNatClampNeg (M30 t0 17)) (fun M35 => cl_let (cl_ms M35 (t0 + 2) 4 ((M35 (t0 + 2) 4) + 1)) (fun M36 => (f_X6_next M36 t0).bind (fun M37 => r98 M37 t0))) else none)
set_option maxHeartbeats 4000000 in
set_option maxRecDepth 100000 in
theorem k_X6_setupText_115 {p : Program} {l : Launch} {e : Env} {s : State} {m : MethodId} {args : Array Value} {below : List Frame} {meth : Method} {c : Code} {dd : cl_D} {b : Nat} (C : cl_C p l s m args meth c cX6_setupText RX6 1 (some .boolean) dd b) {r98 : cl_M → Nat → Option (Int32 × cl_M)} (hr98 : ∀ (M : cl_M) (t0 : Nat) (r : Int32) (M' : cl_M), r98 M t0 = some (r, M') → ∀ (H : Heap) (locs : List Loc) (ls : Array Slot), cl_sh dd t0 = 6 → cl_H dd b M s H locs → lv_has ls 1 [(0, .ref (b + t0))] → W p l e { frames := 9, cells := 0, slots := 0, locals := 204 } s m args below meth c H locs 0 0 (cl_Zi below args s dd b r M') (F0 m 98 ls [])) : ∀ (M : cl_M) (t0 : Nat) (r : Int32) (M' : cl_M), f_X6_setupText_115 r98 M t0 = some (r, M') → ∀ (H : Heap) (locs : List Loc) (ls : Array Slot), cl_sh dd t0 = 6 → cl_H dd b M s H locs → lv_has ls 1 [(0, .ref (b + t0))] → W p l e { frames := 9, cells := 0, slots := 0, locals := 204 } s m args below meth c H locs 0 0 (cl_Zi below args s dd b r M') (F0 m 115 ls []) := by
  have hx := C.1
  have hb := C.2.1
  have hlt := C.2.2.2.2.2.2.2.2.2.2
  have hRr := C.2.2.2.2.2.2.2.2.2.1
  intro M t0 r M' hf H locs ls ht0 hw hl
  unfold f_X6_setupText_115 at hf
  refine lv_aload_n hx hb dX6_setupText_115 rfl (lv_at hl 0 rfl) ?_
  refine lv_iconst (v := 0) hx hb dX6_setupText_116 (by decide) ?_
  refine lv_iconst (v := 5) hx hb dX6_setupText_117 (by decide) ?_
  obtain ⟨v29, M30, e31, hf⟩ := cl_b2_e hf
  refine cr_Vi C hw (c_X6_numberIn hlt ht0 e31) cy_X6_numberIn vy_X6_numberIn ml_X6_196 (cl_lt ht0 (by decide)) (cl_e6 ht0) rfl rfl (As := [.int 0, .int 5]) rfl hl.1 rfl ⟨⟨Nat.le_of_ble_eq_true rfl, Nat.le_of_ble_eq_true rfl⟩, Nat.le_of_ble_eq_true rfl, Nat.le_of_ble_eq_true rfl, Nat.le_of_ble_eq_true rfl⟩ dX6_setupText_118 (fun H locs hw => ?_)
  refine lv_if_ne (tgt := 126) hx hb dX6_setupText_121 (by decide) (fun c32 => ?_) (fun c32 => ?_)
  · have hf := cl_no c32 hf
    refine lv_aload_n hx hb dX6_setupText_126 rfl (lv_at hl 0 rfl) ?_
    refine fg_X6_17 C hw ht0 dX6_setupText_127 ?_
    refine lv_iconst (v := 4) hx hb dX6_setupText_130 (by decide) ?_
    refine cr_iald C hw (sh_6_5 ht0).1 (sh_6_5 ht0).2 (by decide) (k := 4) rfl dX6_setupText_131 ?_
    refine lv_bipush (v := 8) hx hb dX6_setupText_132 (by decide) ?_
    refine lv_icmp_ne (tgt := 143) hx hb dX6_setupText_134 (by decide) (fun c33 => ?_) (fun c33 => ?_)
    · have hf := cl_no c33 hf
      refine lv_aload_n hx hb dX6_setupText_143 rfl (lv_at hl 0 rfl) ?_
      refine fg_X6_17 C hw ht0 dX6_setupText_144 ?_
      refine lv_bipush (v := 11) hx hb dX6_setupText_147 (by decide) ?_
      refine lv_aload_n hx hb dX6_setupText_149 rfl (lv_at hl 0 rfl) ?_
      refine fg_X6_17 C hw ht0 dX6_setupText_150 ?_
      refine lv_iconst (v := 4) hx hb dX6_setupText_153 (by decide) ?_
      refine cr_iald C hw (sh_6_5 ht0).1 (sh_6_5 ht0).2 (by decide) (k := 4) rfl dX6_setupText_154 ?_
      refine lv_iadd hx hb dX6_setupText_155 ?_
      refine lv_aload_n hx hb dX6_setupText_156 rfl (lv_at hl 0 rfl) ?_
      refine fg_X6_175 C hw ht0 dX6_setupText_157 ?_
      obtain ⟨q34, hf⟩ := cl_grd hf
      obtain ⟨M35, eM35, hf⟩ := cl_let_e hf
      refine cr_iast C hw (sh_6_5 ht0).1 (sh_6_5 ht0).2 q34 (k := (11 + (M30 (t0 + 2) 4)).toNatClampNeg) rfl eM35 dX6_setupText_160 (fun H locs hw => ?_)
      refine lv_aload_n hx hb dX6_setupText_161 rfl (lv_at hl 0 rfl) ?_
      refine fg_X6_17 C hw ht0 dX6_setupText_162 ?_
      refine lv_iconst (v := 4) hx hb dX6_setupText_165 (by decide) ?_
      refine lv_dup2_11 hx hb dX6_setupText_166 rfl rfl ?_
      refine cr_iald C hw (sh_6_5 ht0).1 (sh_6_5 ht0).2 (by decide) (k := 4) rfl dX6_setupText_167 ?_
      refine lv_iconst (v := 1) hx hb dX6_setupText_168 (by decide) ?_
      refine lv_iadd hx hb dX6_setupText_169 ?_
      obtain ⟨M36, eM36, hf⟩ := cl_let_e hf
      refine cr_iast C hw (sh_6_5 ht0).1 (sh_6_5 ht0).2 (by decide) (k := 4) rfl eM36 dX6_setupText_170 (fun H locs hw => ?_)
      refine lv_aload_n hx hb dX6_setupText_171 rfl (lv_at hl 0 rfl) ?_
      obtain ⟨M37, e38, hf⟩ := cl_bind_e hf
      refine cr_Vv C hw (c_X6_next hlt ht0 e38) cy_X6_next vy_X6_next ml_X6_189 (cl_lt ht0 (by decide)) (cl_e6 ht0) rfl rfl (As := []) rfl hl.1 rfl ⟨⟨Nat.le_of_ble_eq_true rfl, Nat.le_of_ble_eq_true rfl⟩, Nat.le_of_ble_eq_true rfl, Nat.le_of_ble_eq_true rfl, Nat.le_of_ble_eq_true rfl⟩ dX6_setupText_172 (fun H locs hw => ?_)
      refine lv_goto (tgt := 98) hx hb dX6_setupText_175 (by decide) ?_
      exact hr98 M37 t0 _ _ hf _ _ _ ht0 hw (lv_sub hl [0] rfl)
    · have hf := cl_yes c33 hf
      refine lv_aload_n hx hb dX6_setupText_137 rfl (lv_at hl 0 rfl) ?_
      refine lv_iconst (v := 4) hx hb dX6_setupText_138 (by decide) ?_
      obtain ⟨v39, M40, e41, hf⟩ := cl_b2_e hf
      refine cr_Vi C hw (c_X6_wrong hlt ht0 e41) cy_X6_wrong vy_X6_wrong ml_X6_186 (cl_lt ht0 (by decide)) (cl_e6 ht0) rfl rfl (As := [.int 4]) rfl hl.1 rfl ⟨⟨Nat.le_of_ble_eq_true rfl, Nat.le_of_ble_eq_true rfl⟩, Nat.le_of_ble_eq_true rfl, Nat.le_of_ble_eq_true rfl, Nat.le_of_ble_eq_true rfl⟩ dX6_setupText_139 (fun H locs hw => ?_)
      obtain ⟨q42, hf⟩ := cl_grd hf
      obtain ⟨rfl, rfl⟩ := cl_pair hf
      exact cr_retz C hw q42 dX6_setupText_142
  · have hf := cl_yes c32 hf
    refine lv_iconst (v := 0) hx hb dX6_setupText_124 (by decide) ?_
    obtain ⟨rfl, rfl⟩ := cl_pair hf
    exact cr_retz C hw (by decide) dX6_setupText_125
def f_X6_setupText_194 (M : cl_M) (z0 : Int32) : Option (Int32 × cl_M) := if cl_bz z0 = true then some (z0, M) else none
set_option maxHeartbeats 4000000 in
set_option maxRecDepth 100000 in
theorem k_X6_setupText_194 {p : Program} {l : Launch} {e : Env} {s : State} {m : MethodId} {args : Array Value} {below : List Frame} {meth : Method} {c : Code} {dd : cl_D} {b : Nat} (C : cl_C p l s m args meth c cX6_setupText RX6 1 (some .boolean) dd b) : ∀ (M : cl_M) (z0 : Int32) (r : Int32) (M' : cl_M), f_X6_setupText_194 M z0 = some (r, M') → ∀ (H : Heap) (locs : List Loc) (ls : Array Slot), cl_H dd b M s H locs → lv_has ls 1 [] → W p l e { frames := 9, cells := 0, slots := 0, locals := 204 } s m args below meth c H locs 0 0 (cl_Zi below args s dd b r M') (F0 m 194 ls [.int z0]) := by
  have hx := C.1
  have hb := C.2.1
  have hlt := C.2.2.2.2.2.2.2.2.2.2
  have hRr := C.2.2.2.2.2.2.2.2.2.1
  intro M z0 r M' hf H locs ls hw hl
  unfold f_X6_setupText_194 at hf
  obtain ⟨q50, hf⟩ := cl_grd hf
  obtain ⟨rfl, rfl⟩ := cl_pair hf
  exact cr_retz C hw q50 dX6_setupText_194
def f_X6_setupText_98 : Nat → cl_M → Nat → Option (Int32 × cl_M)
  | 0, _, _ => none
  | k + 1, M, t0 => if (M (t0 + 2) 4) = 0 then f_X6_setupText_115 (f_X6_setupText_98 k) M t0 else if (M t0 15) = 2 then (f_X6_next M t0).bind (fun M44 => cl_b2 (f_X6_commandsText M44 t0) (fun v46 M47 => if v46 < 0 then f_X6_setupText_194 M47 0 else f_X6_setupText_194 M47 1)) else f_X6_setupText_115 (f_X6_setupText_98 k) M t0
set_option maxHeartbeats 4000000 in
set_option maxRecDepth 100000 in
theorem k_X6_setupText_98 {p : Program} {l : Launch} {e : Env} {s : State} {m : MethodId} {args : Array Value} {below : List Frame} {meth : Method} {c : Code} {dd : cl_D} {b : Nat} (C : cl_C p l s m args meth c cX6_setupText RX6 1 (some .boolean) dd b) : ∀ (k : Nat), ∀ (M : cl_M) (t0 : Nat) (r : Int32) (M' : cl_M), f_X6_setupText_98 k M t0 = some (r, M') → ∀ (H : Heap) (locs : List Loc) (ls : Array Slot), cl_sh dd t0 = 6 → cl_H dd b M s H locs → lv_has ls 1 [(0, .ref (b + t0))] → W p l e { frames := 9, cells := 0, slots := 0, locals := 204 } s m args below meth c H locs 0 0 (cl_Zi below args s dd b r M') (F0 m 98 ls []) := by
  have hx := C.1
  have hb := C.2.1
  have hlt := C.2.2.2.2.2.2.2.2.2.2
  have hRr := C.2.2.2.2.2.2.2.2.2.1
  intro k
  induction k with
  | zero =>
    intro M t0 r M' hf H locs ls ht0 hw hl
    rw [f_X6_setupText_98] at hf
    cases hf
  | succ k ih =>
    intro M t0 r M' hf H locs ls ht0 hw hl
    rw [f_X6_setupText_98] at hf
    refine lv_aload_n hx hb dX6_setupText_98 rfl (lv_at hl 0 rfl) ?_
    refine fg_X6_17 C hw ht0 dX6_setupText_99 ?_
    refine lv_iconst (v := 4) hx hb dX6_setupText_102 (by decide) ?_
    refine cr_iald C hw (sh_6_5 ht0).1 (sh_6_5 ht0).2 (by decide) (k := 4) rfl dX6_setupText_103 ?_
    refine lv_if_eq (tgt := 115) hx hb dX6_setupText_104 (by decide) (fun c28 => ?_) (fun c28 => ?_)
    · have hf := cl_yes c28 hf
      exact k_X6_setupText_115 C ih M t0 _ _ hf _ _ _ ht0 hw (lv_sub hl [0] rfl)
    · have hf := cl_no c28 hf
      refine lv_aload_n hx hb dX6_setupText_107 rfl (lv_at hl 0 rfl) ?_
      refine fg_X6_166 C hw ht0 dX6_setupText_108 ?_
      refine lv_iconst (v := 2) hx hb dX6_setupText_111 (by decide) ?_
      refine lv_icmp_eq (tgt := 178) hx hb dX6_setupText_112 (by decide) (fun c43 => ?_) (fun c43 => ?_)
      · have hf := cl_yes c43 hf
        refine lv_aload_n hx hb dX6_setupText_178 rfl (lv_at hl 0 rfl) ?_
        obtain ⟨M44, e45, hf⟩ := cl_bind_e hf
        refine cr_Vv C hw (c_X6_next hlt ht0 e45) cy_X6_next vy_X6_next ml_X6_189 (cl_lt ht0 (by decide)) (cl_e6 ht0) rfl rfl (As := []) rfl hl.1 rfl ⟨⟨Nat.le_of_ble_eq_true rfl, Nat.le_of_ble_eq_true rfl⟩, Nat.le_of_ble_eq_true rfl, Nat.le_of_ble_eq_true rfl, Nat.le_of_ble_eq_true rfl⟩ dX6_setupText_179 (fun H locs hw => ?_)
        refine lv_aload_n hx hb dX6_setupText_182 rfl (lv_at hl 0 rfl) ?_
        obtain ⟨v46, M47, e48, hf⟩ := cl_b2_e hf
        refine cr_Vi C hw (c_X6_commandsText hlt ht0 e48) cy_X6_commandsText vy_X6_commandsText ml_X6_212 (cl_lt ht0 (by decide)) (cl_e6 ht0) rfl rfl (As := []) rfl hl.1 rfl ⟨⟨Nat.le_of_ble_eq_true rfl, Nat.le_of_ble_eq_true rfl⟩, Nat.le_of_ble_eq_true rfl, Nat.le_of_ble_eq_true rfl, Nat.le_of_ble_eq_true rfl⟩ dX6_setupText_183 (fun H locs hw => ?_)
        refine lv_if_lt (tgt := 193) hx hb dX6_setupText_186 (by decide) (fun c49 => ?_) (fun c49 => ?_)
        · have hf := cl_yes c49 hf
          refine lv_iconst (v := 0) hx hb dX6_setupText_193 (by decide) ?_
          exact k_X6_setupText_194 C M47 0 _ _ hf _ _ _ hw (lv_sub hl [] rfl)
        · have hf := cl_no c49 hf
          refine lv_iconst (v := 1) hx hb dX6_setupText_189 (by decide) ?_
          refine lv_goto (tgt := 194) hx hb dX6_setupText_190 (by decide) ?_
          exact k_X6_setupText_194 C M47 1 _ _ hf _ _ _ hw (lv_sub hl [] rfl)
      · have hf := cl_no c43 hf
        exact k_X6_setupText_115 C ih M t0 _ _ hf _ _ _ ht0 hw (lv_sub hl [0] rfl)
def f_X6_setupText (M : cl_M) (t0 : Nat) : Option (Int32 × cl_M) := cl_b2 (f_X6_expects M t0 11) (fun v1 M2 => if v1 = 0 then some (0, M2) else cl_b2 (f_X6_into M2 t0 0 0 30) (fun v5 M6 => if v5 = 0 then some (0, M6) else cl_b2 (f_X6_into M6 t0 1 0 30) (fun v9 M10 => if v9 = 0 then some (0, M10) else cl_b2 (f_X6_into M10 t0 2 0 24) (fun v13 M14 => if v13 = 0 then some (0, M14) else cl_b2 (f_X6_semicolon M14 t0) (fun v17 M18 => if v17 = 0 then some (0, M18) else cl_let (cl_ms M18 (t0 + 2) 2 (M18 (t0 + 8) 0)) (fun M21 => cl_let (cl_ms M21 (t0 + 2) 3 (M21 (t0 + 8) 1)) (fun M22 => cl_let (cl_ms M22 (t0 + 2) 1 (M22 (t0 + 8) 2)) (fun M23 => cl_b2 (f_X6_expects M23 t0 12) (fun v24 M25 => if v24 = 0 then some (0, M25) else f_X6_setupText_98 cl_F M25 t0)))))))))
set_option maxHeartbeats 4000000 in
set_option maxRecDepth 100000 in
theorem k_X6_setupText {p : Program} {l : Launch} {e : Env} {s : State} {m : MethodId} {args : Array Value} {below : List Frame} {meth : Method} {c : Code} {dd : cl_D} {b : Nat} (C : cl_C p l s m args meth c cX6_setupText RX6 1 (some .boolean) dd b) : ∀ (M : cl_M) (t0 : Nat) (r : Int32) (M' : cl_M), f_X6_setupText M t0 = some (r, M') → ∀ (H : Heap) (locs : List Loc) (ls : Array Slot), cl_sh dd t0 = 6 → cl_H dd b M s H locs → lv_has ls 1 [(0, .ref (b + t0))] → W p l e { frames := 9, cells := 0, slots := 0, locals := 204 } s m args below meth c H locs 0 0 (cl_Zi below args s dd b r M') (F0 m 0 ls []) := by
  have hx := C.1
  have hb := C.2.1
  have hlt := C.2.2.2.2.2.2.2.2.2.2
  have hRr := C.2.2.2.2.2.2.2.2.2.1
  intro M t0 r M' hf H locs ls ht0 hw hl
  unfold f_X6_setupText at hf
  refine lv_aload_n hx hb dX6_setupText_0 rfl (lv_at hl 0 rfl) ?_
  refine va_ldcS hx hb C.2.2.2.1 (sr_11 hRr) dX6_setupText_1 ?_
  obtain ⟨v1, M2, e3, hf⟩ := cl_b2_e hf
  refine cr_Vi C hw (c_X6_expects hlt ht0 (by decide) e3) cy_X6_expects vy_X6_expects ml_X6_201 (cl_lt ht0 (by decide)) (cl_e6 ht0) rfl rfl (As := [.ref (dd.2.2.1 11)]) rfl hl.1 rfl ⟨⟨Nat.le_of_ble_eq_true rfl, Nat.le_of_ble_eq_true rfl⟩, Nat.le_of_ble_eq_true rfl, Nat.le_of_ble_eq_true rfl, Nat.le_of_ble_eq_true rfl⟩ dX6_setupText_3 (fun H locs hw => ?_)
  refine lv_if_eq (tgt := 49) hx hb dX6_setupText_6 (by decide) (fun c4 => ?_) (fun c4 => ?_)
  · have hf := cl_yes c4 hf
    refine lv_iconst (v := 0) hx hb dX6_setupText_49 (by decide) ?_
    obtain ⟨rfl, rfl⟩ := cl_pair hf
    exact cr_retz C hw (by decide) dX6_setupText_50
  · have hf := cl_no c4 hf
    refine lv_aload_n hx hb dX6_setupText_9 rfl (lv_at hl 0 rfl) ?_
    refine lv_iconst (v := 0) hx hb dX6_setupText_10 (by decide) ?_
    refine lv_iconst (v := 0) hx hb dX6_setupText_11 (by decide) ?_
    refine lv_bipush (v := 30) hx hb dX6_setupText_12 (by decide) ?_
    obtain ⟨v5, M6, e7, hf⟩ := cl_b2_e hf
    refine cr_Vi C hw (c_X6_into hlt ht0 e7) cy_X6_into vy_X6_into ml_X6_204 (cl_lt ht0 (by decide)) (cl_e6 ht0) rfl rfl (As := [.int 0, .int 0, .int 30]) rfl hl.1 rfl ⟨⟨Nat.le_of_ble_eq_true rfl, Nat.le_of_ble_eq_true rfl⟩, Nat.le_of_ble_eq_true rfl, Nat.le_of_ble_eq_true rfl, Nat.le_of_ble_eq_true rfl⟩ dX6_setupText_14 (fun H locs hw => ?_)
    refine lv_if_eq (tgt := 49) hx hb dX6_setupText_17 (by decide) (fun c8 => ?_) (fun c8 => ?_)
    · have hf := cl_yes c8 hf
      refine lv_iconst (v := 0) hx hb dX6_setupText_49 (by decide) ?_
      obtain ⟨rfl, rfl⟩ := cl_pair hf
      exact cr_retz C hw (by decide) dX6_setupText_50
    · have hf := cl_no c8 hf
      refine lv_aload_n hx hb dX6_setupText_20 rfl (lv_at hl 0 rfl) ?_
      refine lv_iconst (v := 1) hx hb dX6_setupText_21 (by decide) ?_
      refine lv_iconst (v := 0) hx hb dX6_setupText_22 (by decide) ?_
      refine lv_bipush (v := 30) hx hb dX6_setupText_23 (by decide) ?_
      obtain ⟨v9, M10, e11, hf⟩ := cl_b2_e hf
      refine cr_Vi C hw (c_X6_into hlt ht0 e11) cy_X6_into vy_X6_into ml_X6_204 (cl_lt ht0 (by decide)) (cl_e6 ht0) rfl rfl (As := [.int 1, .int 0, .int 30]) rfl hl.1 rfl ⟨⟨Nat.le_of_ble_eq_true rfl, Nat.le_of_ble_eq_true rfl⟩, Nat.le_of_ble_eq_true rfl, Nat.le_of_ble_eq_true rfl, Nat.le_of_ble_eq_true rfl⟩ dX6_setupText_25 (fun H locs hw => ?_)
      refine lv_if_eq (tgt := 49) hx hb dX6_setupText_28 (by decide) (fun c12 => ?_) (fun c12 => ?_)
      · have hf := cl_yes c12 hf
        refine lv_iconst (v := 0) hx hb dX6_setupText_49 (by decide) ?_
        obtain ⟨rfl, rfl⟩ := cl_pair hf
        exact cr_retz C hw (by decide) dX6_setupText_50
      · have hf := cl_no c12 hf
        refine lv_aload_n hx hb dX6_setupText_31 rfl (lv_at hl 0 rfl) ?_
        refine lv_iconst (v := 2) hx hb dX6_setupText_32 (by decide) ?_
        refine lv_iconst (v := 0) hx hb dX6_setupText_33 (by decide) ?_
        refine lv_bipush (v := 24) hx hb dX6_setupText_34 (by decide) ?_
        obtain ⟨v13, M14, e15, hf⟩ := cl_b2_e hf
        refine cr_Vi C hw (c_X6_into hlt ht0 e15) cy_X6_into vy_X6_into ml_X6_204 (cl_lt ht0 (by decide)) (cl_e6 ht0) rfl rfl (As := [.int 2, .int 0, .int 24]) rfl hl.1 rfl ⟨⟨Nat.le_of_ble_eq_true rfl, Nat.le_of_ble_eq_true rfl⟩, Nat.le_of_ble_eq_true rfl, Nat.le_of_ble_eq_true rfl, Nat.le_of_ble_eq_true rfl⟩ dX6_setupText_36 (fun H locs hw => ?_)
        refine lv_if_eq (tgt := 49) hx hb dX6_setupText_39 (by decide) (fun c16 => ?_) (fun c16 => ?_)
        · have hf := cl_yes c16 hf
          refine lv_iconst (v := 0) hx hb dX6_setupText_49 (by decide) ?_
          obtain ⟨rfl, rfl⟩ := cl_pair hf
          exact cr_retz C hw (by decide) dX6_setupText_50
        · have hf := cl_no c16 hf
          refine lv_aload_n hx hb dX6_setupText_42 rfl (lv_at hl 0 rfl) ?_
          obtain ⟨v17, M18, e19, hf⟩ := cl_b2_e hf
          refine cr_Vi C hw (c_X6_semicolon hlt ht0 e19) cy_X6_semicolon vy_X6_semicolon ml_X6_207 (cl_lt ht0 (by decide)) (cl_e6 ht0) rfl rfl (As := []) rfl hl.1 rfl ⟨⟨Nat.le_of_ble_eq_true rfl, Nat.le_of_ble_eq_true rfl⟩, Nat.le_of_ble_eq_true rfl, Nat.le_of_ble_eq_true rfl, Nat.le_of_ble_eq_true rfl⟩ dX6_setupText_43 (fun H locs hw => ?_)
          refine lv_if_ne (tgt := 51) hx hb dX6_setupText_46 (by decide) (fun c20 => ?_) (fun c20 => ?_)
          · have hf := cl_no c20 hf
            refine lv_aload_n hx hb dX6_setupText_51 rfl (lv_at hl 0 rfl) ?_
            refine fg_X6_17 C hw ht0 dX6_setupText_52 ?_
            refine lv_iconst (v := 2) hx hb dX6_setupText_55 (by decide) ?_
            refine lv_aload_n hx hb dX6_setupText_56 rfl (lv_at hl 0 rfl) ?_
            refine fg_X6_36 C hw ht0 dX6_setupText_57 ?_
            refine lv_iconst (v := 0) hx hb dX6_setupText_60 (by decide) ?_
            refine cr_iald C hw (sh_6_12 ht0).1 (sh_6_12 ht0).2 (by decide) (k := 0) rfl dX6_setupText_61 ?_
            obtain ⟨M21, eM21, hf⟩ := cl_let_e hf
            refine cr_iast C hw (sh_6_5 ht0).1 (sh_6_5 ht0).2 (by decide) (k := 2) rfl eM21 dX6_setupText_62 (fun H locs hw => ?_)
            refine lv_aload_n hx hb dX6_setupText_63 rfl (lv_at hl 0 rfl) ?_
            refine fg_X6_17 C hw ht0 dX6_setupText_64 ?_
            refine lv_iconst (v := 3) hx hb dX6_setupText_67 (by decide) ?_
            refine lv_aload_n hx hb dX6_setupText_68 rfl (lv_at hl 0 rfl) ?_
            refine fg_X6_36 C hw ht0 dX6_setupText_69 ?_
            refine lv_iconst (v := 1) hx hb dX6_setupText_72 (by decide) ?_
            refine cr_iald C hw (sh_6_12 ht0).1 (sh_6_12 ht0).2 (by decide) (k := 1) rfl dX6_setupText_73 ?_
            obtain ⟨M22, eM22, hf⟩ := cl_let_e hf
            refine cr_iast C hw (sh_6_5 ht0).1 (sh_6_5 ht0).2 (by decide) (k := 3) rfl eM22 dX6_setupText_74 (fun H locs hw => ?_)
            refine lv_aload_n hx hb dX6_setupText_75 rfl (lv_at hl 0 rfl) ?_
            refine fg_X6_17 C hw ht0 dX6_setupText_76 ?_
            refine lv_iconst (v := 1) hx hb dX6_setupText_79 (by decide) ?_
            refine lv_aload_n hx hb dX6_setupText_80 rfl (lv_at hl 0 rfl) ?_
            refine fg_X6_36 C hw ht0 dX6_setupText_81 ?_
            refine lv_iconst (v := 2) hx hb dX6_setupText_84 (by decide) ?_
            refine cr_iald C hw (sh_6_12 ht0).1 (sh_6_12 ht0).2 (by decide) (k := 2) rfl dX6_setupText_85 ?_
            obtain ⟨M23, eM23, hf⟩ := cl_let_e hf
            refine cr_iast C hw (sh_6_5 ht0).1 (sh_6_5 ht0).2 (by decide) (k := 1) rfl eM23 dX6_setupText_86 (fun H locs hw => ?_)
            refine lv_aload_n hx hb dX6_setupText_87 rfl (lv_at hl 0 rfl) ?_
            refine va_ldcS hx hb C.2.2.2.1 (sr_12 hRr) dX6_setupText_88 ?_
            obtain ⟨v24, M25, e26, hf⟩ := cl_b2_e hf
            refine cr_Vi C hw (c_X6_expects hlt ht0 (by decide) e26) cy_X6_expects vy_X6_expects ml_X6_201 (cl_lt ht0 (by decide)) (cl_e6 ht0) rfl rfl (As := [.ref (dd.2.2.1 12)]) rfl hl.1 rfl ⟨⟨Nat.le_of_ble_eq_true rfl, Nat.le_of_ble_eq_true rfl⟩, Nat.le_of_ble_eq_true rfl, Nat.le_of_ble_eq_true rfl, Nat.le_of_ble_eq_true rfl⟩ dX6_setupText_90 (fun H locs hw => ?_)
            refine lv_if_ne (tgt := 98) hx hb dX6_setupText_93 (by decide) (fun c27 => ?_) (fun c27 => ?_)
            · have hf := cl_no c27 hf
              exact k_X6_setupText_98 C cl_F M25 t0 _ _ hf _ _ _ ht0 hw (lv_sub hl [0] rfl)
            · have hf := cl_yes c27 hf
              refine lv_iconst (v := 0) hx hb dX6_setupText_96 (by decide) ?_
              obtain ⟨rfl, rfl⟩ := cl_pair hf
              exact cr_retz C hw (by decide) dX6_setupText_97
          · have hf := cl_yes c20 hf
            refine lv_iconst (v := 0) hx hb dX6_setupText_49 (by decide) ?_
            obtain ⟨rfl, rfl⟩ := cl_pair hf
            exact cr_retz C hw (by decide) dX6_setupText_50
set_option maxRecDepth 100000 in
theorem c_X6_setupText {l : Launch} {dd : cl_D} {b : Nat} (hlt : l.stackTraces = false) {M : cl_M} {t0 : Nat}  {r : Int32} {M' : cl_M} (ht0 : cl_sh dd t0 = 6) (h : f_X6_setupText M t0 = some (r, M')) : cl_Mi l dd b yX6_setupText cX6_setupText 1 (some .boolean) 9 204 [.ref (b + t0)] M r M' :=
  cl_of hlt (by decide) (Nat.le_of_ble_eq_true rfl) (fun p e s m below meth c ls C hw hl => k_X6_setupText C M t0 r M' h _ _ _ ht0 hw (lv_sub hl [0] rfl))
theorem cy_X6_setupText : cl_cy yX6_setupText cX6_setupText 1 (some .boolean) 0 := ⟨in_ClothesLineModel, cd_X6_setupText, by decide +kernel, by decide +kernel, by decide +kernel⟩
theorem vy_X6_setupText : cl_vy yX6_setupText := ⟨im_X6_setupText, se_X6_setupText⟩
def f_X6_startTrial_2 : Nat → cl_M → Nat → Int32 → Option (cl_M)
  | 0, _, _, _ => none
  | k + 1, M, t0, a1 => if 149 ≤ a1 then some M else if cl_inb a1 149 = true then if cl_inb a1 149 = true then cl_let (cl_ms M (t0 + 4) (a1).toNatClampNeg (M (t0 + 2) (a1.toNatClampNeg))) (fun M4 => cl_let (a1 + 1) (fun v5 => f_X6_startTrial_2 k M4 t0 v5)) else none else none
set_option maxHeartbeats 4000000 in
set_option maxRecDepth 100000 in
theorem k_X6_startTrial_2 {p : Program} {l : Launch} {e : Env} {s : State} {m : MethodId} {args : Array Value} {below : List Frame} {meth : Method} {c : Code} {dd : cl_D} {b : Nat} (C : cl_C p l s m args meth c cX6_startTrial RX6 2 none dd b) : ∀ (k : Nat), ∀ (M : cl_M) (t0 : Nat) (a1 : Int32) (M' : cl_M), f_X6_startTrial_2 k M t0 a1 = some M' → ∀ (H : Heap) (locs : List Loc) (ls : Array Slot), cl_sh dd t0 = 6 → cl_H dd b M s H locs → lv_has ls 2 [(0, .ref (b + t0)), (1, .int a1)] → W p l e { frames := 0, cells := 0, slots := 0, locals := 0 } s m args below meth c H locs 0 0 (cl_Zv below args s dd b M') (F0 m 2 ls []) := by
  have hx := C.1
  have hb := C.2.1
  have hlt := C.2.2.2.2.2.2.2.2.2.2
  have hRr := C.2.2.2.2.2.2.2.2.2.1
  intro k
  induction k with
  | zero =>
    intro M t0 a1 M' hf H locs ls ht0 hw hl
    rw [f_X6_startTrial_2] at hf
    cases hf
  | succ k ih =>
    intro M t0 a1 M' hf H locs ls ht0 hw hl
    rw [f_X6_startTrial_2] at hf
    refine lv_iload_n hx hb dX6_startTrial_2 rfl (lv_at hl 1 rfl) ?_
    refine lv_sipush (v := 149) hx hb dX6_startTrial_3 (by decide) ?_
    refine lv_icmp_ge (tgt := 27) hx hb dX6_startTrial_6 (by decide) (fun c1 => ?_) (fun c1 => ?_)
    · have hf := cl_yes c1 hf
      obtain rfl := Option.some.inj hf
      exact cr_retv C hw dX6_startTrial_27
    · have hf := cl_no c1 hf
      refine lv_aload_n hx hb dX6_startTrial_9 rfl (lv_at hl 0 rfl) ?_
      refine fg_X6_23 C hw ht0 dX6_startTrial_10 ?_
      refine lv_iload_n hx hb dX6_startTrial_13 rfl (lv_at hl 1 rfl) ?_
      refine lv_aload_n hx hb dX6_startTrial_14 rfl (lv_at hl 0 rfl) ?_
      refine fg_X6_17 C hw ht0 dX6_startTrial_15 ?_
      refine lv_iload_n hx hb dX6_startTrial_18 rfl (lv_at hl 1 rfl) ?_
      obtain ⟨q2, hf⟩ := cl_grd hf
      refine cr_iald C hw (sh_6_5 ht0).1 (sh_6_5 ht0).2 q2 (k := a1.toNatClampNeg) rfl dX6_startTrial_19 ?_
      obtain ⟨q3, hf⟩ := cl_grd hf
      obtain ⟨M4, eM4, hf⟩ := cl_let_e hf
      refine cr_iast C hw (sh_6_7 ht0).1 (sh_6_7 ht0).2 q3 (k := (a1).toNatClampNeg) rfl eM4 dX6_startTrial_20 (fun H locs hw => ?_)
      obtain ⟨v5, ev5, hf⟩ := cl_let_e hf
      refine lv_iinc (v := v5) (lv' := [(1, .int v5), (0, .ref (b + t0))]) hx hb dX6_startTrial_21 hl (k := 1) rfl (by rw [ev5]; rfl) (by decide) rfl (fun ls hl => ?_)
      refine lv_goto (tgt := 2) hx hb dX6_startTrial_24 (by decide) ?_
      exact ih M4 t0 v5 _ hf _ _ _ ht0 hw (lv_sub hl [1, 0] rfl)
def f_X6_startTrial (M : cl_M) (t0 : Nat) : Option (cl_M) := f_X6_startTrial_2 cl_F M t0 0
set_option maxHeartbeats 4000000 in
set_option maxRecDepth 100000 in
theorem k_X6_startTrial {p : Program} {l : Launch} {e : Env} {s : State} {m : MethodId} {args : Array Value} {below : List Frame} {meth : Method} {c : Code} {dd : cl_D} {b : Nat} (C : cl_C p l s m args meth c cX6_startTrial RX6 2 none dd b) : ∀ (M : cl_M) (t0 : Nat) (M' : cl_M), f_X6_startTrial M t0 = some M' → ∀ (H : Heap) (locs : List Loc) (ls : Array Slot), cl_sh dd t0 = 6 → cl_H dd b M s H locs → lv_has ls 2 [(0, .ref (b + t0))] → W p l e { frames := 0, cells := 0, slots := 0, locals := 0 } s m args below meth c H locs 0 0 (cl_Zv below args s dd b M') (F0 m 0 ls []) := by
  have hx := C.1
  have hb := C.2.1
  have hlt := C.2.2.2.2.2.2.2.2.2.2
  have hRr := C.2.2.2.2.2.2.2.2.2.1
  intro M t0 M' hf H locs ls ht0 hw hl
  unfold f_X6_startTrial at hf
  refine lv_iconst (v := 0) hx hb dX6_startTrial_0 (by decide) ?_
  refine lv_istore_n (lv' := [(1, .int 0), (0, .ref (b + t0))]) hx hb dX6_startTrial_1 rfl hl (by decide) rfl (fun ls hl => ?_)
  exact k_X6_startTrial_2 C cl_F M t0 0 _ hf _ _ _ ht0 hw (lv_sub hl [1, 0] rfl)
set_option maxRecDepth 100000 in
theorem c_X6_startTrial {l : Launch} {dd : cl_D} {b : Nat} (hlt : l.stackTraces = false) {M : cl_M} {t0 : Nat}  {M' : cl_M} (ht0 : cl_sh dd t0 = 6) (h : f_X6_startTrial M t0 = some M') : cl_Mv l dd b yX6_startTrial cX6_startTrial 2 none 0 0 [.ref (b + t0)] M M' :=
  cl_of hlt (by decide) (Nat.le_of_ble_eq_true rfl) (fun p e s m below meth c ls C hw hl => k_X6_startTrial C M t0 M' h _ _ _ ht0 hw (lv_sub hl [0] rfl))
theorem cy_X6_startTrial : cl_cy yX6_startTrial cX6_startTrial 2 none 0 := ⟨in_ClothesLineModel, cd_X6_startTrial, by decide +kernel, by decide +kernel, by decide +kernel⟩
theorem vy_X6_startTrial : cl_vy yX6_startTrial := ⟨im_X6_startTrial, se_X6_startTrial⟩
def f_X6_putBack_2 : Nat → cl_M → Nat → Int32 → Int32 → Option (Int32 × cl_M)
  | 0, _, _, _, _ => none
  | k + 1, M, t0, a1, a2 => if 149 ≤ a2 then some (a1, M) else if cl_inb a2 149 = true then if cl_inb a2 149 = true then cl_let (cl_ms M (t0 + 2) (a2).toNatClampNeg (M (t0 + 4) (a2.toNatClampNeg))) (fun M4 => cl_let (a2 + 1) (fun v5 => f_X6_putBack_2 k M4 t0 a1 v5)) else none else none
set_option maxHeartbeats 4000000 in
set_option maxRecDepth 100000 in
theorem k_X6_putBack_2 {p : Program} {l : Launch} {e : Env} {s : State} {m : MethodId} {args : Array Value} {below : List Frame} {meth : Method} {c : Code} {dd : cl_D} {b : Nat} (C : cl_C p l s m args meth c cX6_putBack RX6 3 (some .int) dd b) : ∀ (k : Nat), ∀ (M : cl_M) (t0 : Nat) (a1 : Int32) (a2 : Int32) (r : Int32) (M' : cl_M), f_X6_putBack_2 k M t0 a1 a2 = some (r, M') → ∀ (H : Heap) (locs : List Loc) (ls : Array Slot), cl_sh dd t0 = 6 → cl_H dd b M s H locs → lv_has ls 3 [(0, .ref (b + t0)), (1, .int a1), (2, .int a2)] → W p l e { frames := 0, cells := 0, slots := 0, locals := 0 } s m args below meth c H locs 0 0 (cl_Zi below args s dd b r M') (F0 m 2 ls []) := by
  have hx := C.1
  have hb := C.2.1
  have hlt := C.2.2.2.2.2.2.2.2.2.2
  have hRr := C.2.2.2.2.2.2.2.2.2.1
  intro k
  induction k with
  | zero =>
    intro M t0 a1 a2 r M' hf H locs ls ht0 hw hl
    rw [f_X6_putBack_2] at hf
    cases hf
  | succ k ih =>
    intro M t0 a1 a2 r M' hf H locs ls ht0 hw hl
    rw [f_X6_putBack_2] at hf
    refine lv_iload_n hx hb dX6_putBack_2 rfl (lv_at hl 2 rfl) ?_
    refine lv_sipush (v := 149) hx hb dX6_putBack_3 (by decide) ?_
    refine lv_icmp_ge (tgt := 27) hx hb dX6_putBack_6 (by decide) (fun c1 => ?_) (fun c1 => ?_)
    · have hf := cl_yes c1 hf
      refine lv_iload_n hx hb dX6_putBack_27 rfl (lv_at hl 1 rfl) ?_
      obtain ⟨rfl, rfl⟩ := cl_pair hf
      exact cr_reti C hw dX6_putBack_28
    · have hf := cl_no c1 hf
      refine lv_aload_n hx hb dX6_putBack_9 rfl (lv_at hl 0 rfl) ?_
      refine fg_X6_17 C hw ht0 dX6_putBack_10 ?_
      refine lv_iload_n hx hb dX6_putBack_13 rfl (lv_at hl 2 rfl) ?_
      refine lv_aload_n hx hb dX6_putBack_14 rfl (lv_at hl 0 rfl) ?_
      refine fg_X6_23 C hw ht0 dX6_putBack_15 ?_
      refine lv_iload_n hx hb dX6_putBack_18 rfl (lv_at hl 2 rfl) ?_
      obtain ⟨q2, hf⟩ := cl_grd hf
      refine cr_iald C hw (sh_6_7 ht0).1 (sh_6_7 ht0).2 q2 (k := a2.toNatClampNeg) rfl dX6_putBack_19 ?_
      obtain ⟨q3, hf⟩ := cl_grd hf
      obtain ⟨M4, eM4, hf⟩ := cl_let_e hf
      refine cr_iast C hw (sh_6_5 ht0).1 (sh_6_5 ht0).2 q3 (k := (a2).toNatClampNeg) rfl eM4 dX6_putBack_20 (fun H locs hw => ?_)
      obtain ⟨v5, ev5, hf⟩ := cl_let_e hf
      refine lv_iinc (v := v5) (lv' := [(2, .int v5), (0, .ref (b + t0)), (1, .int a1)]) hx hb dX6_putBack_21 hl (k := 2) rfl (by rw [ev5]; rfl) (by decide) rfl (fun ls hl => ?_)
      refine lv_goto (tgt := 2) hx hb dX6_putBack_24 (by decide) ?_
      exact ih M4 t0 a1 v5 _ _ hf _ _ _ ht0 hw (lv_sub hl [1, 2, 0] rfl)
def f_X6_putBack (M : cl_M) (t0 : Nat) (a1 : Int32) : Option (Int32 × cl_M) := f_X6_putBack_2 cl_F M t0 a1 0
set_option maxHeartbeats 4000000 in
set_option maxRecDepth 100000 in
theorem k_X6_putBack {p : Program} {l : Launch} {e : Env} {s : State} {m : MethodId} {args : Array Value} {below : List Frame} {meth : Method} {c : Code} {dd : cl_D} {b : Nat} (C : cl_C p l s m args meth c cX6_putBack RX6 3 (some .int) dd b) : ∀ (M : cl_M) (t0 : Nat) (a1 : Int32) (r : Int32) (M' : cl_M), f_X6_putBack M t0 a1 = some (r, M') → ∀ (H : Heap) (locs : List Loc) (ls : Array Slot), cl_sh dd t0 = 6 → cl_H dd b M s H locs → lv_has ls 3 [(0, .ref (b + t0)), (1, .int a1)] → W p l e { frames := 0, cells := 0, slots := 0, locals := 0 } s m args below meth c H locs 0 0 (cl_Zi below args s dd b r M') (F0 m 0 ls []) := by
  have hx := C.1
  have hb := C.2.1
  have hlt := C.2.2.2.2.2.2.2.2.2.2
  have hRr := C.2.2.2.2.2.2.2.2.2.1
  intro M t0 a1 r M' hf H locs ls ht0 hw hl
  unfold f_X6_putBack at hf
  refine lv_iconst (v := 0) hx hb dX6_putBack_0 (by decide) ?_
  refine lv_istore_n (lv' := [(2, .int 0), (0, .ref (b + t0)), (1, .int a1)]) hx hb dX6_putBack_1 rfl hl (by decide) rfl (fun ls hl => ?_)
  exact k_X6_putBack_2 C cl_F M t0 a1 0 _ _ hf _ _ _ ht0 hw (lv_sub hl [1, 2, 0] rfl)
set_option maxRecDepth 100000 in
theorem c_X6_putBack {l : Launch} {dd : cl_D} {b : Nat} (hlt : l.stackTraces = false) {M : cl_M} {t0 : Nat} {a1 : Int32}  {r : Int32} {M' : cl_M} (ht0 : cl_sh dd t0 = 6) (h : f_X6_putBack M t0 a1 = some (r, M')) : cl_Mi l dd b yX6_putBack cX6_putBack 3 (some .int) 0 0 [.ref (b + t0), .int a1] M r M' :=
  cl_of hlt (by decide) (Nat.le_of_ble_eq_true rfl) (fun p e s m below meth c ls C hw hl => k_X6_putBack C M t0 a1 r M' h _ _ _ ht0 hw (lv_sub hl [0, 1] rfl))
theorem cy_X6_putBack : cl_cy yX6_putBack cX6_putBack 3 (some .int) 1 := ⟨in_ClothesLineModel, cd_X6_putBack, by decide +kernel, by decide +kernel, by decide +kernel⟩
theorem vy_X6_putBack : cl_vy yX6_putBack := ⟨im_X6_putBack, se_X6_putBack⟩
def f_X6_loadSetup_11 : Nat → cl_M → Nat → Int32 → Option (Int32 × cl_M)
  | 0, _, _, _ => none
  | k + 1, M, t0, a1 => if 149 ≤ a1 then (f_X6_startText M t0).bind (fun M5 => cl_b2 (f_X6_setupText M5 t0) (fun v7 M8 => cl_let (cl_ms M8 t0 1 0) (fun M10 => if v7 = 0 then cl_b2 (f_X6_putBack M10 t0 (-1)) (fun v15 M16 => some (v15, M16)) else cl_let (cl_ms M10 t0 9 0) (fun M12 => cl_let (cl_ms M12 (t0 + 7) 0 (vp_nar .boolean 0)) (fun M13 => cl_let (cl_ms M13 (t0 + 7) 1 (vp_nar .boolean 0)) (fun M14 => some (M14 (t0 + 2) 7, M14))))))) else if cl_inb a1 149 = true then cl_let (cl_ms M (t0 + 2) (a1).toNatClampNeg 0) (fun M19 => cl_let (a1 + 1) (fun v20 => f_X6_loadSetup_11 k M19 t0 v20)) else none
set_option maxHeartbeats 4000000 in
set_option maxRecDepth 100000 in
theorem k_X6_loadSetup_11 {p : Program} {l : Launch} {e : Env} {s : State} {m : MethodId} {args : Array Value} {below : List Frame} {meth : Method} {c : Code} {dd : cl_D} {b : Nat} (C : cl_C p l s m args meth c cX6_loadSetup RX6 2 (some .int) dd b) : ∀ (k : Nat), ∀ (M : cl_M) (t0 : Nat) (a1 : Int32) (r : Int32) (M' : cl_M), f_X6_loadSetup_11 k M t0 a1 = some (r, M') → ∀ (H : Heap) (locs : List Loc) (ls : Array Slot), cl_sh dd t0 = 6 → cl_H dd b M s H locs → lv_has ls 2 [(0, .ref (b + t0)), (1, .int a1)] → W p l e { frames := 10, cells := 0, slots := 0, locals := 224 } s m args below meth c H locs 0 0 (cl_Zi below args s dd b r M') (F0 m 11 ls []) := by
  have hx := C.1
  have hb := C.2.1
  have hlt := C.2.2.2.2.2.2.2.2.2.2
  have hRr := C.2.2.2.2.2.2.2.2.2.1
  intro k
  induction k with
  | zero =>
    intro M t0 a1 r M' hf H locs ls ht0 hw hl
    rw [f_X6_loadSetup_11] at hf
    cases hf
  | succ k ih =>
    intro M t0 a1 r M' hf H locs ls ht0 hw hl
    rw [f_X6_loadSetup_11] at hf
    refine lv_iload_n hx hb dX6_loadSetup_11 rfl (lv_at hl 1 rfl) ?_
    refine lv_sipush (v := 149) hx hb dX6_loadSetup_12 (by decide) ?_
    refine lv_icmp_ge (tgt := 31) hx hb dX6_loadSetup_15 (by decide) (fun c4 => ?_) (fun c4 => ?_)
    · have hf := cl_yes c4 hf
      refine lv_aload_n hx hb dX6_loadSetup_31 rfl (lv_at hl 0 rfl) ?_
      obtain ⟨M5, e6, hf⟩ := cl_bind_e hf
      refine cr_Vv C hw (c_X6_startText hlt ht0 e6) cy_X6_startText vy_X6_startText ml_X6_295 (cl_lt ht0 (by decide)) (cl_e6 ht0) rfl rfl (As := []) rfl hl.1 rfl ⟨⟨Nat.le_of_ble_eq_true rfl, Nat.le_of_ble_eq_true rfl⟩, Nat.le_of_ble_eq_true rfl, Nat.le_of_ble_eq_true rfl, Nat.le_of_ble_eq_true rfl⟩ dX6_loadSetup_32 (fun H locs hw => ?_)
      refine lv_aload_n hx hb dX6_loadSetup_35 rfl (lv_at hl 0 rfl) ?_
      obtain ⟨v7, M8, e9, hf⟩ := cl_b2_e hf
      refine cr_Vi C hw (c_X6_setupText hlt ht0 e9) cy_X6_setupText vy_X6_setupText ml_X6_298 (cl_lt ht0 (by decide)) (cl_e6 ht0) rfl rfl (As := []) rfl hl.1 rfl ⟨⟨Nat.le_of_ble_eq_true rfl, Nat.le_of_ble_eq_true rfl⟩, Nat.le_of_ble_eq_true rfl, Nat.le_of_ble_eq_true rfl, Nat.le_of_ble_eq_true rfl⟩ dX6_loadSetup_36 (fun H locs hw => ?_)
      refine lv_istore_n (lv' := [(1, .int v7), (0, .ref (b + t0))]) hx hb dX6_loadSetup_39 rfl hl (by decide) rfl (fun ls hl => ?_)
      refine lv_aload_n hx hb dX6_loadSetup_40 rfl (lv_at hl 1 rfl) ?_
      refine lv_iconst (v := 0) hx hb dX6_loadSetup_41 (by decide) ?_
      obtain ⟨M10, eM10, hf⟩ := cl_let_e hf
      refine fp_X6_54 C hw ht0 eM10 dX6_loadSetup_42 (fun H locs hw => ?_)
      refine lv_iload_n hx hb dX6_loadSetup_45 rfl (lv_at hl 0 rfl) ?_
      refine lv_if_ne (tgt := 55) hx hb dX6_loadSetup_46 (by decide) (fun c11 => ?_) (fun c11 => ?_)
      · have hf := cl_no c11 hf
        refine lv_aload_n hx hb dX6_loadSetup_55 rfl (lv_at hl 1 rfl) ?_
        refine lv_iconst (v := 0) hx hb dX6_loadSetup_56 (by decide) ?_
        obtain ⟨M12, eM12, hf⟩ := cl_let_e hf
        refine fp_X6_304 C hw ht0 eM12 dX6_loadSetup_57 (fun H locs hw => ?_)
        refine lv_aload_n hx hb dX6_loadSetup_60 rfl (lv_at hl 1 rfl) ?_
        refine fg_X6_32 C hw ht0 dX6_loadSetup_61 ?_
        refine lv_iconst (v := 0) hx hb dX6_loadSetup_64 (by decide) ?_
        refine lv_iconst (v := 0) hx hb dX6_loadSetup_65 (by decide) ?_
        obtain ⟨M13, eM13, hf⟩ := cl_let_e hf
        refine cr_zast C hw (sh_6_11 ht0).1 (sh_6_11 ht0).2 (by decide) (k := 0) rfl eM13 dX6_loadSetup_66 (fun H locs hw => ?_)
        refine lv_aload_n hx hb dX6_loadSetup_67 rfl (lv_at hl 1 rfl) ?_
        refine fg_X6_32 C hw ht0 dX6_loadSetup_68 ?_
        refine lv_iconst (v := 1) hx hb dX6_loadSetup_71 (by decide) ?_
        refine lv_iconst (v := 0) hx hb dX6_loadSetup_72 (by decide) ?_
        obtain ⟨M14, eM14, hf⟩ := cl_let_e hf
        refine cr_zast C hw (sh_6_11 ht0).1 (sh_6_11 ht0).2 (by decide) (k := 1) rfl eM14 dX6_loadSetup_73 (fun H locs hw => ?_)
        refine lv_aload_n hx hb dX6_loadSetup_74 rfl (lv_at hl 1 rfl) ?_
        refine fg_X6_17 C hw ht0 dX6_loadSetup_75 ?_
        refine lv_bipush (v := 7) hx hb dX6_loadSetup_78 (by decide) ?_
        refine cr_iald C hw (sh_6_5 ht0).1 (sh_6_5 ht0).2 (by decide) (k := 7) rfl dX6_loadSetup_80 ?_
        obtain ⟨rfl, rfl⟩ := cl_pair hf
        exact cr_reti C hw dX6_loadSetup_81
      · have hf := cl_yes c11 hf
        refine lv_aload_n hx hb dX6_loadSetup_49 rfl (lv_at hl 1 rfl) ?_
        refine lv_iconst (v := (-1)) hx hb dX6_loadSetup_50 (by decide) ?_
        obtain ⟨v15, M16, e17, hf⟩ := cl_b2_e hf
        refine cr_Vi C hw (c_X6_putBack hlt ht0 e17) cy_X6_putBack vy_X6_putBack ml_X6_301 (cl_lt ht0 (by decide)) (cl_e6 ht0) rfl rfl (As := [.int (-1)]) rfl hl.1 rfl ⟨⟨Nat.le_of_ble_eq_true rfl, Nat.le_of_ble_eq_true rfl⟩, Nat.le_of_ble_eq_true rfl, Nat.le_of_ble_eq_true rfl, Nat.le_of_ble_eq_true rfl⟩ dX6_loadSetup_51 (fun H locs hw => ?_)
        obtain ⟨rfl, rfl⟩ := cl_pair hf
        exact cr_reti C hw dX6_loadSetup_54
    · have hf := cl_no c4 hf
      refine lv_aload_n hx hb dX6_loadSetup_18 rfl (lv_at hl 0 rfl) ?_
      refine fg_X6_17 C hw ht0 dX6_loadSetup_19 ?_
      refine lv_iload_n hx hb dX6_loadSetup_22 rfl (lv_at hl 1 rfl) ?_
      refine lv_iconst (v := 0) hx hb dX6_loadSetup_23 (by decide) ?_
      obtain ⟨q18, hf⟩ := cl_grd hf
      obtain ⟨M19, eM19, hf⟩ := cl_let_e hf
      refine cr_iast C hw (sh_6_5 ht0).1 (sh_6_5 ht0).2 q18 (k := (a1).toNatClampNeg) rfl eM19 dX6_loadSetup_24 (fun H locs hw => ?_)
      obtain ⟨v20, ev20, hf⟩ := cl_let_e hf
      refine lv_iinc (v := v20) (lv' := [(1, .int v20), (0, .ref (b + t0))]) hx hb dX6_loadSetup_25 hl (k := 1) rfl (by rw [ev20]; rfl) (by decide) rfl (fun ls hl => ?_)
      refine lv_goto (tgt := 11) hx hb dX6_loadSetup_28 (by decide) ?_
      exact ih M19 t0 v20 _ _ hf _ _ _ ht0 hw (lv_sub hl [1, 0] rfl)
def f_X6_loadSetup (M : cl_M) (t0 : Nat) : Option (Int32 × cl_M) := cl_let (cl_ms M t0 4 0) (fun M1 => (f_X6_startTrial M1 t0).bind (fun M2 => f_X6_loadSetup_11 cl_F M2 t0 0))
set_option maxHeartbeats 4000000 in
set_option maxRecDepth 100000 in
theorem k_X6_loadSetup {p : Program} {l : Launch} {e : Env} {s : State} {m : MethodId} {args : Array Value} {below : List Frame} {meth : Method} {c : Code} {dd : cl_D} {b : Nat} (C : cl_C p l s m args meth c cX6_loadSetup RX6 2 (some .int) dd b) : ∀ (M : cl_M) (t0 : Nat) (r : Int32) (M' : cl_M), f_X6_loadSetup M t0 = some (r, M') → ∀ (H : Heap) (locs : List Loc) (ls : Array Slot), cl_sh dd t0 = 6 → cl_H dd b M s H locs → lv_has ls 2 [(0, .ref (b + t0))] → W p l e { frames := 10, cells := 0, slots := 0, locals := 224 } s m args below meth c H locs 0 0 (cl_Zi below args s dd b r M') (F0 m 0 ls []) := by
  have hx := C.1
  have hb := C.2.1
  have hlt := C.2.2.2.2.2.2.2.2.2.2
  have hRr := C.2.2.2.2.2.2.2.2.2.1
  intro M t0 r M' hf H locs ls ht0 hw hl
  unfold f_X6_loadSetup at hf
  refine lv_aload_n hx hb dX6_loadSetup_0 rfl (lv_at hl 0 rfl) ?_
  refine lv_iconst (v := 0) hx hb dX6_loadSetup_1 (by decide) ?_
  obtain ⟨M1, eM1, hf⟩ := cl_let_e hf
  refine fp_X6_60 C hw ht0 eM1 dX6_loadSetup_2 (fun H locs hw => ?_)
  refine lv_aload_n hx hb dX6_loadSetup_5 rfl (lv_at hl 0 rfl) ?_
  obtain ⟨M2, e3, hf⟩ := cl_bind_e hf
  refine cr_Vv C hw (c_X6_startTrial hlt ht0 e3) cy_X6_startTrial vy_X6_startTrial ml_X6_292 (cl_lt ht0 (by decide)) (cl_e6 ht0) rfl rfl (As := []) rfl hl.1 rfl ⟨⟨Nat.le_of_ble_eq_true rfl, Nat.le_of_ble_eq_true rfl⟩, Nat.le_of_ble_eq_true rfl, Nat.le_of_ble_eq_true rfl, Nat.le_of_ble_eq_true rfl⟩ dX6_loadSetup_6 (fun H locs hw => ?_)
  refine lv_iconst (v := 0) hx hb dX6_loadSetup_9 (by decide) ?_
  refine lv_istore_n (lv' := [(1, .int 0), (0, .ref (b + t0))]) hx hb dX6_loadSetup_10 rfl hl (by decide) rfl (fun ls hl => ?_)
  exact k_X6_loadSetup_11 C cl_F M2 t0 0 _ _ hf _ _ _ ht0 hw (lv_sub hl [1, 0] rfl)
set_option maxRecDepth 100000 in
theorem c_X6_loadSetup {l : Launch} {dd : cl_D} {b : Nat} (hlt : l.stackTraces = false) {M : cl_M} {t0 : Nat}  {r : Int32} {M' : cl_M} (ht0 : cl_sh dd t0 = 6) (h : f_X6_loadSetup M t0 = some (r, M')) : cl_Mi l dd b yX6_loadSetup cX6_loadSetup 2 (some .int) 10 224 [.ref (b + t0)] M r M' :=
  cl_of hlt (by decide) (Nat.le_of_ble_eq_true rfl) (fun p e s m below meth c ls C hw hl => k_X6_loadSetup C M t0 r M' h _ _ _ ht0 hw (lv_sub hl [0] rfl))
theorem cy_X6_loadSetup : cl_cy yX6_loadSetup cX6_loadSetup 2 (some .int) 0 := ⟨in_ClothesLineModel, cd_X6_loadSetup, by decide +kernel, by decide +kernel, by decide +kernel⟩
theorem vy_X6_loadSetup : cl_vy yX6_loadSetup := ⟨im_X6_loadSetup, se_X6_loadSetup⟩
def f_X6_pushAside_52 : Nat → cl_M → Nat → Int32 → Option (cl_M)
  | 0, _, _, _ => none
  | k + 1, M, t0, a1 => if 149 ≤ a1 then cl_let (cl_ms M t0 9 ((M t0 9) + 1)) (fun M3 => some M3) else if cl_inb a1 149 = true then if cl_inb ((149 * (M t0 9)) + a1) 1192 = true then cl_let (cl_ms M (t0 + 5) ((149 * (M t0 9)) + a1).toNatClampNeg (M (t0 + 3) (a1.toNatClampNeg))) (fun M6 => cl_let (a1 + 1) (fun v7 => f_X6_pushAside_52 k M6 t0 v7)) else none else none
set_option maxHeartbeats 4000000 in
set_option maxRecDepth 100000 in
theorem k_X6_pushAside_52 {p : Program} {l : Launch} {e : Env} {s : State} {m : MethodId} {args : Array Value} {below : List Frame} {meth : Method} {c : Code} {dd : cl_D} {b : Nat} (C : cl_C p l s m args meth c cX6_pushAside RX6 2 none dd b) : ∀ (k : Nat), ∀ (M : cl_M) (t0 : Nat) (a1 : Int32) (M' : cl_M), f_X6_pushAside_52 k M t0 a1 = some M' → ∀ (H : Heap) (locs : List Loc) (ls : Array Slot), cl_sh dd t0 = 6 → cl_H dd b M s H locs → lv_has ls 2 [(0, .ref (b + t0)), (1, .int a1)] → W p l e { frames := 0, cells := 0, slots := 0, locals := 0 } s m args below meth c H locs 0 0 (cl_Zv below args s dd b M') (F0 m 52 ls []) := by
  have hx := C.1
  have hb := C.2.1
  have hlt := C.2.2.2.2.2.2.2.2.2.2
  have hRr := C.2.2.2.2.2.2.2.2.2.1
  intro k
  induction k with
  | zero =>
    intro M t0 a1 M' hf H locs ls ht0 hw hl
    rw [f_X6_pushAside_52] at hf
    cases hf
  | succ k ih =>
    intro M t0 a1 M' hf H locs ls ht0 hw hl
    rw [f_X6_pushAside_52] at hf
    refine lv_iload_n hx hb dX6_pushAside_52 rfl (lv_at hl 1 rfl) ?_
    refine lv_sipush (v := 149) hx hb dX6_pushAside_53 (by decide) ?_
    refine lv_icmp_ge (tgt := 86) hx hb dX6_pushAside_56 (by decide) (fun c2 => ?_) (fun c2 => ?_)
    · have hf := cl_yes c2 hf
      refine lv_aload_n hx hb dX6_pushAside_86 rfl (lv_at hl 0 rfl) ?_
      refine lv_dup hx hb dX6_pushAside_87 rfl ?_
      refine fg_X6_304 C hw ht0 dX6_pushAside_88 ?_
      refine lv_iconst (v := 1) hx hb dX6_pushAside_91 (by decide) ?_
      refine lv_iadd hx hb dX6_pushAside_92 ?_
      obtain ⟨M3, eM3, hf⟩ := cl_let_e hf
      refine fp_X6_304 C hw ht0 eM3 dX6_pushAside_93 (fun H locs hw => ?_)
      obtain rfl := Option.some.inj hf
      exact cr_retv C hw dX6_pushAside_96
    · have hf := cl_no c2 hf
      refine lv_aload_n hx hb dX6_pushAside_59 rfl (lv_at hl 0 rfl) ?_
      refine fg_X6_26 C hw ht0 dX6_pushAside_60 ?_
      refine lv_sipush (v := 149) hx hb dX6_pushAside_63 (by decide) ?_
      refine lv_aload_n hx hb dX6_pushAside_66 rfl (lv_at hl 0 rfl) ?_
      refine fg_X6_304 C hw ht0 dX6_pushAside_67 ?_
      refine lv_imul hx hb dX6_pushAside_70 ?_
      refine lv_iload_n hx hb dX6_pushAside_71 rfl (lv_at hl 1 rfl) ?_
      refine lv_iadd hx hb dX6_pushAside_72 ?_
      refine lv_aload_n hx hb dX6_pushAside_73 rfl (lv_at hl 0 rfl) ?_
      refine fg_X6_20 C hw ht0 dX6_pushAside_74 ?_
      refine lv_iload_n hx hb dX6_pushAside_77 rfl (lv_at hl 1 rfl) ?_
      obtain ⟨q4, hf⟩ := cl_grd hf
      refine cr_iald C hw (sh_6_6 ht0).1 (sh_6_6 ht0).2 q4 (k := a1.toNatClampNeg) rfl dX6_pushAside_78 ?_
      obtain ⟨q5, hf⟩ := cl_grd hf
      obtain ⟨M6, eM6, hf⟩ := cl_let_e hf
      refine cr_iast C hw (sh_6_8 ht0).1 (sh_6_8 ht0).2 q5 (k := ((149 * (M t0 9)) + a1).toNatClampNeg) rfl eM6 dX6_pushAside_79 (fun H locs hw => ?_)
      obtain ⟨v7, ev7, hf⟩ := cl_let_e hf
      refine lv_iinc (v := v7) (lv' := [(1, .int v7), (0, .ref (b + t0))]) hx hb dX6_pushAside_80 hl (k := 1) rfl (by rw [ev7]; rfl) (by decide) rfl (fun ls hl => ?_)
      refine lv_goto (tgt := 52) hx hb dX6_pushAside_83 (by decide) ?_
      exact ih M6 t0 v7 _ hf _ _ _ ht0 hw (lv_sub hl [1, 0] rfl)
def f_X6_pushAside_50 (M : cl_M) (t0 : Nat) : Option (cl_M) := f_X6_pushAside_52 cl_F M t0 0
set_option maxHeartbeats 4000000 in
set_option maxRecDepth 100000 in
theorem k_X6_pushAside_50 {p : Program} {l : Launch} {e : Env} {s : State} {m : MethodId} {args : Array Value} {below : List Frame} {meth : Method} {c : Code} {dd : cl_D} {b : Nat} (C : cl_C p l s m args meth c cX6_pushAside RX6 2 none dd b) : ∀ (M : cl_M) (t0 : Nat) (M' : cl_M), f_X6_pushAside_50 M t0 = some M' → ∀ (H : Heap) (locs : List Loc) (ls : Array Slot), cl_sh dd t0 = 6 → cl_H dd b M s H locs → lv_has ls 2 [(0, .ref (b + t0))] → W p l e { frames := 0, cells := 0, slots := 0, locals := 0 } s m args below meth c H locs 0 0 (cl_Zv below args s dd b M') (F0 m 50 ls []) := by
  have hx := C.1
  have hb := C.2.1
  have hlt := C.2.2.2.2.2.2.2.2.2.2
  have hRr := C.2.2.2.2.2.2.2.2.2.1
  intro M t0 M' hf H locs ls ht0 hw hl
  unfold f_X6_pushAside_50 at hf
  refine lv_iconst (v := 0) hx hb dX6_pushAside_50 (by decide) ?_
  refine lv_istore_n (lv' := [(1, .int 0), (0, .ref (b + t0))]) hx hb dX6_pushAside_51 rfl hl (by decide) rfl (fun ls hl => ?_)
  exact k_X6_pushAside_52 C cl_F M t0 0 _ hf _ _ _ ht0 hw (lv_sub hl [1, 0] rfl)
def f_X6_pushAside_11 : Nat → cl_M → Nat → Int32 → Option (cl_M)
  | 0, _, _, _ => none
  | k + 1, M, t0, a1 => if 1043 ≤ a1 then cl_let (cl_ms M t0 9 ((M t0 9) - 1)) (fun M9 => f_X6_pushAside_50 M9 t0) else if cl_inb (a1 + 149) 1192 = true then if cl_inb a1 1192 = true then cl_let (cl_ms M (t0 + 5) (a1).toNatClampNeg (M (t0 + 5) ((a1 + 149).toNatClampNeg))) (fun M12 => cl_let (a1 + 1) (fun v13 => f_X6_pushAside_11 k M12 t0 v13)) else none else none
set_option maxHeartbeats 4000000 in
set_option maxRecDepth 100000 in
theorem k_X6_pushAside_11 {p : Program} {l : Launch} {e : Env} {s : State} {m : MethodId} {args : Array Value} {below : List Frame} {meth : Method} {c : Code} {dd : cl_D} {b : Nat} (C : cl_C p l s m args meth c cX6_pushAside RX6 2 none dd b) : ∀ (k : Nat), ∀ (M : cl_M) (t0 : Nat) (a1 : Int32) (M' : cl_M), f_X6_pushAside_11 k M t0 a1 = some M' → ∀ (H : Heap) (locs : List Loc) (ls : Array Slot), cl_sh dd t0 = 6 → cl_H dd b M s H locs → lv_has ls 2 [(0, .ref (b + t0)), (1, .int a1)] → W p l e { frames := 0, cells := 0, slots := 0, locals := 0 } s m args below meth c H locs 0 0 (cl_Zv below args s dd b M') (F0 m 11 ls []) := by
  have hx := C.1
  have hb := C.2.1
  have hlt := C.2.2.2.2.2.2.2.2.2.2
  have hRr := C.2.2.2.2.2.2.2.2.2.1
  intro k
  induction k with
  | zero =>
    intro M t0 a1 M' hf H locs ls ht0 hw hl
    rw [f_X6_pushAside_11] at hf
    cases hf
  | succ k ih =>
    intro M t0 a1 M' hf H locs ls ht0 hw hl
    rw [f_X6_pushAside_11] at hf
    refine lv_iload_n hx hb dX6_pushAside_11 rfl (lv_at hl 1 rfl) ?_
    refine lv_sipush (v := 1043) hx hb dX6_pushAside_12 (by decide) ?_
    refine lv_icmp_ge (tgt := 40) hx hb dX6_pushAside_15 (by decide) (fun c8 => ?_) (fun c8 => ?_)
    · have hf := cl_yes c8 hf
      refine lv_aload_n hx hb dX6_pushAside_40 rfl (lv_at hl 0 rfl) ?_
      refine lv_dup hx hb dX6_pushAside_41 rfl ?_
      refine fg_X6_304 C hw ht0 dX6_pushAside_42 ?_
      refine lv_iconst (v := 1) hx hb dX6_pushAside_45 (by decide) ?_
      refine lv_isub hx hb dX6_pushAside_46 ?_
      obtain ⟨M9, eM9, hf⟩ := cl_let_e hf
      refine fp_X6_304 C hw ht0 eM9 dX6_pushAside_47 (fun H locs hw => ?_)
      exact k_X6_pushAside_50 C M9 t0 _ hf _ _ _ ht0 hw (lv_sub hl [0] rfl)
    · have hf := cl_no c8 hf
      refine lv_aload_n hx hb dX6_pushAside_18 rfl (lv_at hl 0 rfl) ?_
      refine fg_X6_26 C hw ht0 dX6_pushAside_19 ?_
      refine lv_iload_n hx hb dX6_pushAside_22 rfl (lv_at hl 1 rfl) ?_
      refine lv_aload_n hx hb dX6_pushAside_23 rfl (lv_at hl 0 rfl) ?_
      refine fg_X6_26 C hw ht0 dX6_pushAside_24 ?_
      refine lv_iload_n hx hb dX6_pushAside_27 rfl (lv_at hl 1 rfl) ?_
      refine lv_sipush (v := 149) hx hb dX6_pushAside_28 (by decide) ?_
      refine lv_iadd hx hb dX6_pushAside_31 ?_
      obtain ⟨q10, hf⟩ := cl_grd hf
      refine cr_iald C hw (sh_6_8 ht0).1 (sh_6_8 ht0).2 q10 (k := (a1 + 149).toNatClampNeg) rfl dX6_pushAside_32 ?_
      obtain ⟨q11, hf⟩ := cl_grd hf
      obtain ⟨M12, eM12, hf⟩ := cl_let_e hf
      refine cr_iast C hw (sh_6_8 ht0).1 (sh_6_8 ht0).2 q11 (k := (a1).toNatClampNeg) rfl eM12 dX6_pushAside_33 (fun H locs hw => ?_)
      obtain ⟨v13, ev13, hf⟩ := cl_let_e hf
      refine lv_iinc (v := v13) (lv' := [(1, .int v13), (0, .ref (b + t0))]) hx hb dX6_pushAside_34 hl (k := 1) rfl (by rw [ev13]; rfl) (by decide) rfl (fun ls hl => ?_)
      refine lv_goto (tgt := 11) hx hb dX6_pushAside_37 (by decide) ?_
      exact ih M12 t0 v13 _ hf _ _ _ ht0 hw (lv_sub hl [1, 0] rfl)
def f_X6_pushAside (M : cl_M) (t0 : Nat) : Option (cl_M) := if (M t0 9) = 8 then f_X6_pushAside_11 cl_F M t0 0 else f_X6_pushAside_50 M t0
set_option maxHeartbeats 4000000 in
set_option maxRecDepth 100000 in
theorem k_X6_pushAside {p : Program} {l : Launch} {e : Env} {s : State} {m : MethodId} {args : Array Value} {below : List Frame} {meth : Method} {c : Code} {dd : cl_D} {b : Nat} (C : cl_C p l s m args meth c cX6_pushAside RX6 2 none dd b) : ∀ (M : cl_M) (t0 : Nat) (M' : cl_M), f_X6_pushAside M t0 = some M' → ∀ (H : Heap) (locs : List Loc) (ls : Array Slot), cl_sh dd t0 = 6 → cl_H dd b M s H locs → lv_has ls 2 [(0, .ref (b + t0))] → W p l e { frames := 0, cells := 0, slots := 0, locals := 0 } s m args below meth c H locs 0 0 (cl_Zv below args s dd b M') (F0 m 0 ls []) := by
  have hx := C.1
  have hb := C.2.1
  have hlt := C.2.2.2.2.2.2.2.2.2.2
  have hRr := C.2.2.2.2.2.2.2.2.2.1
  intro M t0 M' hf H locs ls ht0 hw hl
  unfold f_X6_pushAside at hf
  refine lv_aload_n hx hb dX6_pushAside_0 rfl (lv_at hl 0 rfl) ?_
  refine fg_X6_304 C hw ht0 dX6_pushAside_1 ?_
  refine lv_bipush (v := 8) hx hb dX6_pushAside_4 (by decide) ?_
  refine lv_icmp_ne (tgt := 50) hx hb dX6_pushAside_6 (by decide) (fun c1 => ?_) (fun c1 => ?_)
  · have hf := cl_no c1 hf
    exact k_X6_pushAside_50 C M t0 _ hf _ _ _ ht0 hw (lv_sub hl [0] rfl)
  · have hf := cl_yes c1 hf
    refine lv_iconst (v := 0) hx hb dX6_pushAside_9 (by decide) ?_
    refine lv_istore_n (lv' := [(1, .int 0), (0, .ref (b + t0))]) hx hb dX6_pushAside_10 rfl hl (by decide) rfl (fun ls hl => ?_)
    exact k_X6_pushAside_11 C cl_F M t0 0 _ hf _ _ _ ht0 hw (lv_sub hl [1, 0] rfl)
set_option maxRecDepth 100000 in
theorem c_X6_pushAside {l : Launch} {dd : cl_D} {b : Nat} (hlt : l.stackTraces = false) {M : cl_M} {t0 : Nat}  {M' : cl_M} (ht0 : cl_sh dd t0 = 6) (h : f_X6_pushAside M t0 = some M') : cl_Mv l dd b yX6_pushAside cX6_pushAside 2 none 0 0 [.ref (b + t0)] M M' :=
  cl_of hlt (by decide) (Nat.le_of_ble_eq_true rfl) (fun p e s m below meth c ls C hw hl => k_X6_pushAside C M t0 M' h _ _ _ ht0 hw (lv_sub hl [0] rfl))
theorem cy_X6_pushAside : cl_cy yX6_pushAside cX6_pushAside 2 none 0 := ⟨in_ClothesLineModel, cd_X6_pushAside, by decide +kernel, by decide +kernel, by decide +kernel⟩
theorem vy_X6_pushAside : cl_vy yX6_pushAside := ⟨im_X6_pushAside, se_X6_pushAside⟩
def f_X6_runScript_35 : Nat → cl_M → Nat → Int32 → Int32 → Option (Int32 × cl_M)
  | 0, _, _, _, _ => none
  | k + 1, M, t0, a1, a2 => if 149 ≤ a2 then (f_X6_pushAside M t0).bind (fun M12 => some (a1, M12)) else if cl_inb a2 149 = true then if cl_inb a2 149 = true then cl_let (cl_ms M (t0 + 3) (a2).toNatClampNeg (M (t0 + 4) (a2.toNatClampNeg))) (fun M16 => cl_let (a2 + 1) (fun v17 => f_X6_runScript_35 k M16 t0 a1 v17)) else none else none
set_option maxHeartbeats 4000000 in
set_option maxRecDepth 100000 in
theorem k_X6_runScript_35 {p : Program} {l : Launch} {e : Env} {s : State} {m : MethodId} {args : Array Value} {below : List Frame} {meth : Method} {c : Code} {dd : cl_D} {b : Nat} (C : cl_C p l s m args meth c cX6_runScript RX6 3 (some .int) dd b) : ∀ (k : Nat), ∀ (M : cl_M) (t0 : Nat) (a1 : Int32) (a2 : Int32) (r : Int32) (M' : cl_M), f_X6_runScript_35 k M t0 a1 a2 = some (r, M') → ∀ (H : Heap) (locs : List Loc) (ls : Array Slot), cl_sh dd t0 = 6 → cl_H dd b M s H locs → lv_has ls 3 [(0, .ref (b + t0)), (1, .int a1), (2, .int a2)] → W p l e { frames := 9, cells := 0, slots := 0, locals := 204 } s m args below meth c H locs 0 0 (cl_Zi below args s dd b r M') (F0 m 35 ls []) := by
  have hx := C.1
  have hb := C.2.1
  have hlt := C.2.2.2.2.2.2.2.2.2.2
  have hRr := C.2.2.2.2.2.2.2.2.2.1
  intro k
  induction k with
  | zero =>
    intro M t0 a1 a2 r M' hf H locs ls ht0 hw hl
    rw [f_X6_runScript_35] at hf
    cases hf
  | succ k ih =>
    intro M t0 a1 a2 r M' hf H locs ls ht0 hw hl
    rw [f_X6_runScript_35] at hf
    refine lv_iload_n hx hb dX6_runScript_35 rfl (lv_at hl 2 rfl) ?_
    refine lv_sipush (v := 149) hx hb dX6_runScript_36 (by decide) ?_
    refine lv_icmp_ge (tgt := 60) hx hb dX6_runScript_39 (by decide) (fun c11 => ?_) (fun c11 => ?_)
    · have hf := cl_yes c11 hf
      refine lv_aload_n hx hb dX6_runScript_60 rfl (lv_at hl 0 rfl) ?_
      obtain ⟨M12, e13, hf⟩ := cl_bind_e hf
      refine cr_Vv C hw (c_X6_pushAside hlt ht0 e13) cy_X6_pushAside vy_X6_pushAside ml_X6_307 (cl_lt ht0 (by decide)) (cl_e6 ht0) rfl rfl (As := []) rfl hl.1 rfl ⟨⟨Nat.le_of_ble_eq_true rfl, Nat.le_of_ble_eq_true rfl⟩, Nat.le_of_ble_eq_true rfl, Nat.le_of_ble_eq_true rfl, Nat.le_of_ble_eq_true rfl⟩ dX6_runScript_61 (fun H locs hw => ?_)
      refine lv_iload_n hx hb dX6_runScript_64 rfl (lv_at hl 1 rfl) ?_
      obtain ⟨rfl, rfl⟩ := cl_pair hf
      exact cr_reti C hw dX6_runScript_65
    · have hf := cl_no c11 hf
      refine lv_aload_n hx hb dX6_runScript_42 rfl (lv_at hl 0 rfl) ?_
      refine fg_X6_20 C hw ht0 dX6_runScript_43 ?_
      refine lv_iload_n hx hb dX6_runScript_46 rfl (lv_at hl 2 rfl) ?_
      refine lv_aload_n hx hb dX6_runScript_47 rfl (lv_at hl 0 rfl) ?_
      refine fg_X6_23 C hw ht0 dX6_runScript_48 ?_
      refine lv_iload_n hx hb dX6_runScript_51 rfl (lv_at hl 2 rfl) ?_
      obtain ⟨q14, hf⟩ := cl_grd hf
      refine cr_iald C hw (sh_6_7 ht0).1 (sh_6_7 ht0).2 q14 (k := a2.toNatClampNeg) rfl dX6_runScript_52 ?_
      obtain ⟨q15, hf⟩ := cl_grd hf
      obtain ⟨M16, eM16, hf⟩ := cl_let_e hf
      refine cr_iast C hw (sh_6_6 ht0).1 (sh_6_6 ht0).2 q15 (k := (a2).toNatClampNeg) rfl eM16 dX6_runScript_53 (fun H locs hw => ?_)
      obtain ⟨v17, ev17, hf⟩ := cl_let_e hf
      refine lv_iinc (v := v17) (lv' := [(2, .int v17), (0, .ref (b + t0)), (1, .int a1)]) hx hb dX6_runScript_54 hl (k := 2) rfl (by rw [ev17]; rfl) (by decide) rfl (fun ls hl => ?_)
      refine lv_goto (tgt := 35) hx hb dX6_runScript_57 (by decide) ?_
      exact ih M16 t0 a1 v17 _ _ hf _ _ _ ht0 hw (lv_sub hl [1, 2, 0] rfl)
def f_X6_runScript (M : cl_M) (t0 : Nat) : Option (Int32 × cl_M) := cl_let (cl_ms M t0 4 0) (fun M1 => (f_X6_startTrial M1 t0).bind (fun M2 => (f_X6_startText M2 t0).bind (fun M4 => cl_b2 (f_X6_commandsText M4 t0) (fun v6 M7 => cl_let (cl_ms M7 t0 1 0) (fun M9 => if 0 ≤ v6 then f_X6_runScript_35 cl_F M9 t0 v6 0 else cl_b2 (f_X6_putBack M9 t0 (-1)) (fun v18 M19 => some (v18, M19)))))))
set_option maxHeartbeats 4000000 in
set_option maxRecDepth 100000 in
theorem k_X6_runScript {p : Program} {l : Launch} {e : Env} {s : State} {m : MethodId} {args : Array Value} {below : List Frame} {meth : Method} {c : Code} {dd : cl_D} {b : Nat} (C : cl_C p l s m args meth c cX6_runScript RX6 3 (some .int) dd b) : ∀ (M : cl_M) (t0 : Nat) (r : Int32) (M' : cl_M), f_X6_runScript M t0 = some (r, M') → ∀ (H : Heap) (locs : List Loc) (ls : Array Slot), cl_sh dd t0 = 6 → cl_H dd b M s H locs → lv_has ls 3 [(0, .ref (b + t0))] → W p l e { frames := 9, cells := 0, slots := 0, locals := 204 } s m args below meth c H locs 0 0 (cl_Zi below args s dd b r M') (F0 m 0 ls []) := by
  have hx := C.1
  have hb := C.2.1
  have hlt := C.2.2.2.2.2.2.2.2.2.2
  have hRr := C.2.2.2.2.2.2.2.2.2.1
  intro M t0 r M' hf H locs ls ht0 hw hl
  unfold f_X6_runScript at hf
  refine lv_aload_n hx hb dX6_runScript_0 rfl (lv_at hl 0 rfl) ?_
  refine lv_iconst (v := 0) hx hb dX6_runScript_1 (by decide) ?_
  obtain ⟨M1, eM1, hf⟩ := cl_let_e hf
  refine fp_X6_60 C hw ht0 eM1 dX6_runScript_2 (fun H locs hw => ?_)
  refine lv_aload_n hx hb dX6_runScript_5 rfl (lv_at hl 0 rfl) ?_
  obtain ⟨M2, e3, hf⟩ := cl_bind_e hf
  refine cr_Vv C hw (c_X6_startTrial hlt ht0 e3) cy_X6_startTrial vy_X6_startTrial ml_X6_292 (cl_lt ht0 (by decide)) (cl_e6 ht0) rfl rfl (As := []) rfl hl.1 rfl ⟨⟨Nat.le_of_ble_eq_true rfl, Nat.le_of_ble_eq_true rfl⟩, Nat.le_of_ble_eq_true rfl, Nat.le_of_ble_eq_true rfl, Nat.le_of_ble_eq_true rfl⟩ dX6_runScript_6 (fun H locs hw => ?_)
  refine lv_aload_n hx hb dX6_runScript_9 rfl (lv_at hl 0 rfl) ?_
  obtain ⟨M4, e5, hf⟩ := cl_bind_e hf
  refine cr_Vv C hw (c_X6_startText hlt ht0 e5) cy_X6_startText vy_X6_startText ml_X6_295 (cl_lt ht0 (by decide)) (cl_e6 ht0) rfl rfl (As := []) rfl hl.1 rfl ⟨⟨Nat.le_of_ble_eq_true rfl, Nat.le_of_ble_eq_true rfl⟩, Nat.le_of_ble_eq_true rfl, Nat.le_of_ble_eq_true rfl, Nat.le_of_ble_eq_true rfl⟩ dX6_runScript_10 (fun H locs hw => ?_)
  refine lv_aload_n hx hb dX6_runScript_13 rfl (lv_at hl 0 rfl) ?_
  obtain ⟨v6, M7, e8, hf⟩ := cl_b2_e hf
  refine cr_Vi C hw (c_X6_commandsText hlt ht0 e8) cy_X6_commandsText vy_X6_commandsText ml_X6_212 (cl_lt ht0 (by decide)) (cl_e6 ht0) rfl rfl (As := []) rfl hl.1 rfl ⟨⟨Nat.le_of_ble_eq_true rfl, Nat.le_of_ble_eq_true rfl⟩, Nat.le_of_ble_eq_true rfl, Nat.le_of_ble_eq_true rfl, Nat.le_of_ble_eq_true rfl⟩ dX6_runScript_14 (fun H locs hw => ?_)
  refine lv_istore_n (lv' := [(1, .int v6), (0, .ref (b + t0))]) hx hb dX6_runScript_17 rfl hl (by decide) rfl (fun ls hl => ?_)
  refine lv_aload_n hx hb dX6_runScript_18 rfl (lv_at hl 1 rfl) ?_
  refine lv_iconst (v := 0) hx hb dX6_runScript_19 (by decide) ?_
  obtain ⟨M9, eM9, hf⟩ := cl_let_e hf
  refine fp_X6_54 C hw ht0 eM9 dX6_runScript_20 (fun H locs hw => ?_)
  refine lv_iload_n hx hb dX6_runScript_23 rfl (lv_at hl 0 rfl) ?_
  refine lv_if_ge (tgt := 33) hx hb dX6_runScript_24 (by decide) (fun c10 => ?_) (fun c10 => ?_)
  · have hf := cl_yes c10 hf
    refine lv_iconst (v := 0) hx hb dX6_runScript_33 (by decide) ?_
    refine lv_istore_n (lv' := [(2, .int 0), (1, .int v6), (0, .ref (b + t0))]) hx hb dX6_runScript_34 rfl hl (by decide) rfl (fun ls hl => ?_)
    exact k_X6_runScript_35 C cl_F M9 t0 v6 0 _ _ hf _ _ _ ht0 hw (lv_sub hl [2, 1, 0] rfl)
  · have hf := cl_no c10 hf
    refine lv_aload_n hx hb dX6_runScript_27 rfl (lv_at hl 1 rfl) ?_
    refine lv_iconst (v := (-1)) hx hb dX6_runScript_28 (by decide) ?_
    obtain ⟨v18, M19, e20, hf⟩ := cl_b2_e hf
    refine cr_Vi C hw (c_X6_putBack hlt ht0 e20) cy_X6_putBack vy_X6_putBack ml_X6_301 (cl_lt ht0 (by decide)) (cl_e6 ht0) rfl rfl (As := [.int (-1)]) rfl hl.1 rfl ⟨⟨Nat.le_of_ble_eq_true rfl, Nat.le_of_ble_eq_true rfl⟩, Nat.le_of_ble_eq_true rfl, Nat.le_of_ble_eq_true rfl, Nat.le_of_ble_eq_true rfl⟩ dX6_runScript_29 (fun H locs hw => ?_)
    obtain ⟨rfl, rfl⟩ := cl_pair hf
    exact cr_reti C hw dX6_runScript_32
set_option maxRecDepth 100000 in
theorem c_X6_runScript {l : Launch} {dd : cl_D} {b : Nat} (hlt : l.stackTraces = false) {M : cl_M} {t0 : Nat}  {r : Int32} {M' : cl_M} (ht0 : cl_sh dd t0 = 6) (h : f_X6_runScript M t0 = some (r, M')) : cl_Mi l dd b yX6_runScript cX6_runScript 3 (some .int) 9 204 [.ref (b + t0)] M r M' :=
  cl_of hlt (by decide) (Nat.le_of_ble_eq_true rfl) (fun p e s m below meth c ls C hw hl => k_X6_runScript C M t0 r M' h _ _ _ ht0 hw (lv_sub hl [0] rfl))
theorem cy_X6_runScript : cl_cy yX6_runScript cX6_runScript 3 (some .int) 0 := ⟨in_ClothesLineModel, cd_X6_runScript, by decide +kernel, by decide +kernel, by decide +kernel⟩
theorem vy_X6_runScript : cl_vy yX6_runScript := ⟨im_X6_runScript, se_X6_runScript⟩
def f_X6_plain (M : cl_M) (t0 : Nat) (a1 : Int32) : Option (Int32 × cl_M) := cl_let (cl_ms M t0 4 0) (fun M1 => some (a1, M1))
set_option maxHeartbeats 4000000 in
set_option maxRecDepth 100000 in
theorem k_X6_plain {p : Program} {l : Launch} {e : Env} {s : State} {m : MethodId} {args : Array Value} {below : List Frame} {meth : Method} {c : Code} {dd : cl_D} {b : Nat} (C : cl_C p l s m args meth c cX6_plain RX6 2 (some .int) dd b) : ∀ (M : cl_M) (t0 : Nat) (a1 : Int32) (r : Int32) (M' : cl_M), f_X6_plain M t0 a1 = some (r, M') → ∀ (H : Heap) (locs : List Loc) (ls : Array Slot), cl_sh dd t0 = 6 → cl_H dd b M s H locs → lv_has ls 2 [(0, .ref (b + t0)), (1, .int a1)] → W p l e { frames := 0, cells := 0, slots := 0, locals := 0 } s m args below meth c H locs 0 0 (cl_Zi below args s dd b r M') (F0 m 0 ls []) := by
  have hx := C.1
  have hb := C.2.1
  have hlt := C.2.2.2.2.2.2.2.2.2.2
  have hRr := C.2.2.2.2.2.2.2.2.2.1
  intro M t0 a1 r M' hf H locs ls ht0 hw hl
  unfold f_X6_plain at hf
  refine lv_aload_n hx hb dX6_plain_0 rfl (lv_at hl 0 rfl) ?_
  refine lv_iconst (v := 0) hx hb dX6_plain_1 (by decide) ?_
  obtain ⟨M1, eM1, hf⟩ := cl_let_e hf
  refine fp_X6_60 C hw ht0 eM1 dX6_plain_2 (fun H locs hw => ?_)
  refine lv_iload_n hx hb dX6_plain_5 rfl (lv_at hl 1 rfl) ?_
  obtain ⟨rfl, rfl⟩ := cl_pair hf
  exact cr_reti C hw dX6_plain_6
set_option maxRecDepth 100000 in
theorem c_X6_plain {l : Launch} {dd : cl_D} {b : Nat} (hlt : l.stackTraces = false) {M : cl_M} {t0 : Nat} {a1 : Int32}  {r : Int32} {M' : cl_M} (ht0 : cl_sh dd t0 = 6) (h : f_X6_plain M t0 a1 = some (r, M')) : cl_Mi l dd b yX6_plain cX6_plain 2 (some .int) 0 0 [.ref (b + t0), .int a1] M r M' :=
  cl_of hlt (by decide) (Nat.le_of_ble_eq_true rfl) (fun p e s m below meth c ls C hw hl => k_X6_plain C M t0 a1 r M' h _ _ _ ht0 hw (lv_sub hl [0, 1] rfl))
theorem cy_X6_plain : cl_cy yX6_plain cX6_plain 2 (some .int) 1 := ⟨in_ClothesLineModel, cd_X6_plain, by decide +kernel, by decide +kernel, by decide +kernel⟩
theorem vy_X6_plain : cl_vy yX6_plain := ⟨im_X6_plain, se_X6_plain⟩
def f_X6_errorCode (M : cl_M) (t0 : Nat) : Option (Int32 × cl_M) := cl_b2 (f_X6_plain M t0 (M t0 2)) (fun v1 M2 => some (v1, M2))
set_option maxHeartbeats 4000000 in
set_option maxRecDepth 100000 in
theorem k_X6_errorCode {p : Program} {l : Launch} {e : Env} {s : State} {m : MethodId} {args : Array Value} {below : List Frame} {meth : Method} {c : Code} {dd : cl_D} {b : Nat} (C : cl_C p l s m args meth c cX6_errorCode RX6 1 (some .int) dd b) : ∀ (M : cl_M) (t0 : Nat) (r : Int32) (M' : cl_M), f_X6_errorCode M t0 = some (r, M') → ∀ (H : Heap) (locs : List Loc) (ls : Array Slot), cl_sh dd t0 = 6 → cl_H dd b M s H locs → lv_has ls 1 [(0, .ref (b + t0))] → W p l e { frames := 1, cells := 0, slots := 0, locals := 21 } s m args below meth c H locs 0 0 (cl_Zi below args s dd b r M') (F0 m 0 ls []) := by
  have hx := C.1
  have hb := C.2.1
  have hlt := C.2.2.2.2.2.2.2.2.2.2
  have hRr := C.2.2.2.2.2.2.2.2.2.1
  intro M t0 r M' hf H locs ls ht0 hw hl
  unfold f_X6_errorCode at hf
  refine lv_aload_n hx hb dX6_errorCode_0 rfl (lv_at hl 0 rfl) ?_
  refine lv_aload_n hx hb dX6_errorCode_1 rfl (lv_at hl 0 rfl) ?_
  refine fg_X6_179 C hw ht0 dX6_errorCode_2 ?_
  obtain ⟨v1, M2, e3, hf⟩ := cl_b2_e hf
  refine cr_Vi C hw (c_X6_plain hlt ht0 e3) cy_X6_plain vy_X6_plain ml_X6_310 (cl_lt ht0 (by decide)) (cl_e6 ht0) rfl rfl (As := [.int (M t0 2)]) rfl hl.1 rfl ⟨⟨Nat.le_of_ble_eq_true rfl, Nat.le_of_ble_eq_true rfl⟩, Nat.le_of_ble_eq_true rfl, Nat.le_of_ble_eq_true rfl, Nat.le_of_ble_eq_true rfl⟩ dX6_errorCode_5 (fun H locs hw => ?_)
  obtain ⟨rfl, rfl⟩ := cl_pair hf
  exact cr_reti C hw dX6_errorCode_8
set_option maxRecDepth 100000 in
theorem c_X6_errorCode {l : Launch} {dd : cl_D} {b : Nat} (hlt : l.stackTraces = false) {M : cl_M} {t0 : Nat}  {r : Int32} {M' : cl_M} (ht0 : cl_sh dd t0 = 6) (h : f_X6_errorCode M t0 = some (r, M')) : cl_Mi l dd b yX6_errorCode cX6_errorCode 1 (some .int) 1 21 [.ref (b + t0)] M r M' :=
  cl_of hlt (by decide) (Nat.le_of_ble_eq_true rfl) (fun p e s m below meth c ls C hw hl => k_X6_errorCode C M t0 r M' h _ _ _ ht0 hw (lv_sub hl [0] rfl))
theorem cy_X6_errorCode : cl_cy yX6_errorCode cX6_errorCode 1 (some .int) 0 := ⟨in_ClothesLineModel, cd_X6_errorCode, by decide +kernel, by decide +kernel, by decide +kernel⟩
theorem vy_X6_errorCode : cl_vy yX6_errorCode := ⟨im_X6_errorCode, se_X6_errorCode⟩
def f_X6_errorPosition (M : cl_M) (t0 : Nat) : Option (Int32 × cl_M) := cl_b2 (f_X6_plain M t0 (M t0 3)) (fun v1 M2 => some (v1, M2))
set_option maxHeartbeats 4000000 in
set_option maxRecDepth 100000 in
theorem k_X6_errorPosition {p : Program} {l : Launch} {e : Env} {s : State} {m : MethodId} {args : Array Value} {below : List Frame} {meth : Method} {c : Code} {dd : cl_D} {b : Nat} (C : cl_C p l s m args meth c cX6_errorPosition RX6 1 (some .int) dd b) : ∀ (M : cl_M) (t0 : Nat) (r : Int32) (M' : cl_M), f_X6_errorPosition M t0 = some (r, M') → ∀ (H : Heap) (locs : List Loc) (ls : Array Slot), cl_sh dd t0 = 6 → cl_H dd b M s H locs → lv_has ls 1 [(0, .ref (b + t0))] → W p l e { frames := 1, cells := 0, slots := 0, locals := 21 } s m args below meth c H locs 0 0 (cl_Zi below args s dd b r M') (F0 m 0 ls []) := by
  have hx := C.1
  have hb := C.2.1
  have hlt := C.2.2.2.2.2.2.2.2.2.2
  have hRr := C.2.2.2.2.2.2.2.2.2.1
  intro M t0 r M' hf H locs ls ht0 hw hl
  unfold f_X6_errorPosition at hf
  refine lv_aload_n hx hb dX6_errorPosition_0 rfl (lv_at hl 0 rfl) ?_
  refine lv_aload_n hx hb dX6_errorPosition_1 rfl (lv_at hl 0 rfl) ?_
  refine fg_X6_13 C hw ht0 dX6_errorPosition_2 ?_
  obtain ⟨v1, M2, e3, hf⟩ := cl_b2_e hf
  refine cr_Vi C hw (c_X6_plain hlt ht0 e3) cy_X6_plain vy_X6_plain ml_X6_310 (cl_lt ht0 (by decide)) (cl_e6 ht0) rfl rfl (As := [.int (M t0 3)]) rfl hl.1 rfl ⟨⟨Nat.le_of_ble_eq_true rfl, Nat.le_of_ble_eq_true rfl⟩, Nat.le_of_ble_eq_true rfl, Nat.le_of_ble_eq_true rfl, Nat.le_of_ble_eq_true rfl⟩ dX6_errorPosition_5 (fun H locs hw => ?_)
  obtain ⟨rfl, rfl⟩ := cl_pair hf
  exact cr_reti C hw dX6_errorPosition_8
set_option maxRecDepth 100000 in
theorem c_X6_errorPosition {l : Launch} {dd : cl_D} {b : Nat} (hlt : l.stackTraces = false) {M : cl_M} {t0 : Nat}  {r : Int32} {M' : cl_M} (ht0 : cl_sh dd t0 = 6) (h : f_X6_errorPosition M t0 = some (r, M')) : cl_Mi l dd b yX6_errorPosition cX6_errorPosition 1 (some .int) 1 21 [.ref (b + t0)] M r M' :=
  cl_of hlt (by decide) (Nat.le_of_ble_eq_true rfl) (fun p e s m below meth c ls C hw hl => k_X6_errorPosition C M t0 r M' h _ _ _ ht0 hw (lv_sub hl [0] rfl))
theorem cy_X6_errorPosition : cl_cy yX6_errorPosition cX6_errorPosition 1 (some .int) 0 := ⟨in_ClothesLineModel, cd_X6_errorPosition, by decide +kernel, by decide +kernel, by decide +kernel⟩
theorem vy_X6_errorPosition : cl_vy yX6_errorPosition := ⟨im_X6_errorPosition, se_X6_errorPosition⟩
def f_X6_minute (M : cl_M) (t0 : Nat) : Option (Int32 × cl_M) := cl_b2 (f_X6_plain M t0 (M (t0 + 2) 0)) (fun v1 M2 => some (v1, M2))
set_option maxHeartbeats 4000000 in
set_option maxRecDepth 100000 in
theorem k_X6_minute {p : Program} {l : Launch} {e : Env} {s : State} {m : MethodId} {args : Array Value} {below : List Frame} {meth : Method} {c : Code} {dd : cl_D} {b : Nat} (C : cl_C p l s m args meth c cX6_minute RX6 1 (some .int) dd b) : ∀ (M : cl_M) (t0 : Nat) (r : Int32) (M' : cl_M), f_X6_minute M t0 = some (r, M') → ∀ (H : Heap) (locs : List Loc) (ls : Array Slot), cl_sh dd t0 = 6 → cl_H dd b M s H locs → lv_has ls 1 [(0, .ref (b + t0))] → W p l e { frames := 1, cells := 0, slots := 0, locals := 21 } s m args below meth c H locs 0 0 (cl_Zi below args s dd b r M') (F0 m 0 ls []) := by
  have hx := C.1
  have hb := C.2.1
  have hlt := C.2.2.2.2.2.2.2.2.2.2
  have hRr := C.2.2.2.2.2.2.2.2.2.1
  intro M t0 r M' hf H locs ls ht0 hw hl
  unfold f_X6_minute at hf
  refine lv_aload_n hx hb dX6_minute_0 rfl (lv_at hl 0 rfl) ?_
  refine lv_aload_n hx hb dX6_minute_1 rfl (lv_at hl 0 rfl) ?_
  refine fg_X6_17 C hw ht0 dX6_minute_2 ?_
  refine lv_iconst (v := 0) hx hb dX6_minute_5 (by decide) ?_
  refine cr_iald C hw (sh_6_5 ht0).1 (sh_6_5 ht0).2 (by decide) (k := 0) rfl dX6_minute_6 ?_
  obtain ⟨v1, M2, e3, hf⟩ := cl_b2_e hf
  refine cr_Vi C hw (c_X6_plain hlt ht0 e3) cy_X6_plain vy_X6_plain ml_X6_310 (cl_lt ht0 (by decide)) (cl_e6 ht0) rfl rfl (As := [.int (M (t0 + 2) 0)]) rfl hl.1 rfl ⟨⟨Nat.le_of_ble_eq_true rfl, Nat.le_of_ble_eq_true rfl⟩, Nat.le_of_ble_eq_true rfl, Nat.le_of_ble_eq_true rfl, Nat.le_of_ble_eq_true rfl⟩ dX6_minute_7 (fun H locs hw => ?_)
  obtain ⟨rfl, rfl⟩ := cl_pair hf
  exact cr_reti C hw dX6_minute_10
set_option maxRecDepth 100000 in
theorem c_X6_minute {l : Launch} {dd : cl_D} {b : Nat} (hlt : l.stackTraces = false) {M : cl_M} {t0 : Nat}  {r : Int32} {M' : cl_M} (ht0 : cl_sh dd t0 = 6) (h : f_X6_minute M t0 = some (r, M')) : cl_Mi l dd b yX6_minute cX6_minute 1 (some .int) 1 21 [.ref (b + t0)] M r M' :=
  cl_of hlt (by decide) (Nat.le_of_ble_eq_true rfl) (fun p e s m below meth c ls C hw hl => k_X6_minute C M t0 r M' h _ _ _ ht0 hw (lv_sub hl [0] rfl))
theorem cy_X6_minute : cl_cy yX6_minute cX6_minute 1 (some .int) 0 := ⟨in_ClothesLineModel, cd_X6_minute, by decide +kernel, by decide +kernel, by decide +kernel⟩
theorem vy_X6_minute : cl_vy yX6_minute := ⟨im_X6_minute, se_X6_minute⟩
def f_X6_shadowWidth (M : cl_M) (t0 : Nat) : Option (Int32 × cl_M) := cl_b2 (f_X6_plain M t0 (M (t0 + 2) 1)) (fun v1 M2 => some (v1, M2))
set_option maxHeartbeats 4000000 in
set_option maxRecDepth 100000 in
theorem k_X6_shadowWidth {p : Program} {l : Launch} {e : Env} {s : State} {m : MethodId} {args : Array Value} {below : List Frame} {meth : Method} {c : Code} {dd : cl_D} {b : Nat} (C : cl_C p l s m args meth c cX6_shadowWidth RX6 1 (some .int) dd b) : ∀ (M : cl_M) (t0 : Nat) (r : Int32) (M' : cl_M), f_X6_shadowWidth M t0 = some (r, M') → ∀ (H : Heap) (locs : List Loc) (ls : Array Slot), cl_sh dd t0 = 6 → cl_H dd b M s H locs → lv_has ls 1 [(0, .ref (b + t0))] → W p l e { frames := 1, cells := 0, slots := 0, locals := 21 } s m args below meth c H locs 0 0 (cl_Zi below args s dd b r M') (F0 m 0 ls []) := by
  have hx := C.1
  have hb := C.2.1
  have hlt := C.2.2.2.2.2.2.2.2.2.2
  have hRr := C.2.2.2.2.2.2.2.2.2.1
  intro M t0 r M' hf H locs ls ht0 hw hl
  unfold f_X6_shadowWidth at hf
  refine lv_aload_n hx hb dX6_shadowWidth_0 rfl (lv_at hl 0 rfl) ?_
  refine lv_aload_n hx hb dX6_shadowWidth_1 rfl (lv_at hl 0 rfl) ?_
  refine fg_X6_17 C hw ht0 dX6_shadowWidth_2 ?_
  refine lv_iconst (v := 1) hx hb dX6_shadowWidth_5 (by decide) ?_
  refine cr_iald C hw (sh_6_5 ht0).1 (sh_6_5 ht0).2 (by decide) (k := 1) rfl dX6_shadowWidth_6 ?_
  obtain ⟨v1, M2, e3, hf⟩ := cl_b2_e hf
  refine cr_Vi C hw (c_X6_plain hlt ht0 e3) cy_X6_plain vy_X6_plain ml_X6_310 (cl_lt ht0 (by decide)) (cl_e6 ht0) rfl rfl (As := [.int (M (t0 + 2) 1)]) rfl hl.1 rfl ⟨⟨Nat.le_of_ble_eq_true rfl, Nat.le_of_ble_eq_true rfl⟩, Nat.le_of_ble_eq_true rfl, Nat.le_of_ble_eq_true rfl, Nat.le_of_ble_eq_true rfl⟩ dX6_shadowWidth_7 (fun H locs hw => ?_)
  obtain ⟨rfl, rfl⟩ := cl_pair hf
  exact cr_reti C hw dX6_shadowWidth_10
set_option maxRecDepth 100000 in
theorem c_X6_shadowWidth {l : Launch} {dd : cl_D} {b : Nat} (hlt : l.stackTraces = false) {M : cl_M} {t0 : Nat}  {r : Int32} {M' : cl_M} (ht0 : cl_sh dd t0 = 6) (h : f_X6_shadowWidth M t0 = some (r, M')) : cl_Mi l dd b yX6_shadowWidth cX6_shadowWidth 1 (some .int) 1 21 [.ref (b + t0)] M r M' :=
  cl_of hlt (by decide) (Nat.le_of_ble_eq_true rfl) (fun p e s m below meth c ls C hw hl => k_X6_shadowWidth C M t0 r M' h _ _ _ ht0 hw (lv_sub hl [0] rfl))
theorem cy_X6_shadowWidth : cl_cy yX6_shadowWidth cX6_shadowWidth 1 (some .int) 0 := ⟨in_ClothesLineModel, cd_X6_shadowWidth, by decide +kernel, by decide +kernel, by decide +kernel⟩
theorem vy_X6_shadowWidth : cl_vy yX6_shadowWidth := ⟨im_X6_shadowWidth, se_X6_shadowWidth⟩
def f_X6_undoCount (M : cl_M) (t0 : Nat) : Option (Int32 × cl_M) := cl_b2 (f_X6_plain M t0 (M t0 9)) (fun v1 M2 => some (v1, M2))
set_option maxHeartbeats 4000000 in
set_option maxRecDepth 100000 in
theorem k_X6_undoCount {p : Program} {l : Launch} {e : Env} {s : State} {m : MethodId} {args : Array Value} {below : List Frame} {meth : Method} {c : Code} {dd : cl_D} {b : Nat} (C : cl_C p l s m args meth c cX6_undoCount RX6 1 (some .int) dd b) : ∀ (M : cl_M) (t0 : Nat) (r : Int32) (M' : cl_M), f_X6_undoCount M t0 = some (r, M') → ∀ (H : Heap) (locs : List Loc) (ls : Array Slot), cl_sh dd t0 = 6 → cl_H dd b M s H locs → lv_has ls 1 [(0, .ref (b + t0))] → W p l e { frames := 1, cells := 0, slots := 0, locals := 21 } s m args below meth c H locs 0 0 (cl_Zi below args s dd b r M') (F0 m 0 ls []) := by
  have hx := C.1
  have hb := C.2.1
  have hlt := C.2.2.2.2.2.2.2.2.2.2
  have hRr := C.2.2.2.2.2.2.2.2.2.1
  intro M t0 r M' hf H locs ls ht0 hw hl
  unfold f_X6_undoCount at hf
  refine lv_aload_n hx hb dX6_undoCount_0 rfl (lv_at hl 0 rfl) ?_
  refine lv_aload_n hx hb dX6_undoCount_1 rfl (lv_at hl 0 rfl) ?_
  refine fg_X6_304 C hw ht0 dX6_undoCount_2 ?_
  obtain ⟨v1, M2, e3, hf⟩ := cl_b2_e hf
  refine cr_Vi C hw (c_X6_plain hlt ht0 e3) cy_X6_plain vy_X6_plain ml_X6_310 (cl_lt ht0 (by decide)) (cl_e6 ht0) rfl rfl (As := [.int (M t0 9)]) rfl hl.1 rfl ⟨⟨Nat.le_of_ble_eq_true rfl, Nat.le_of_ble_eq_true rfl⟩, Nat.le_of_ble_eq_true rfl, Nat.le_of_ble_eq_true rfl, Nat.le_of_ble_eq_true rfl⟩ dX6_undoCount_5 (fun H locs hw => ?_)
  obtain ⟨rfl, rfl⟩ := cl_pair hf
  exact cr_reti C hw dX6_undoCount_8
set_option maxRecDepth 100000 in
theorem c_X6_undoCount {l : Launch} {dd : cl_D} {b : Nat} (hlt : l.stackTraces = false) {M : cl_M} {t0 : Nat}  {r : Int32} {M' : cl_M} (ht0 : cl_sh dd t0 = 6) (h : f_X6_undoCount M t0 = some (r, M')) : cl_Mi l dd b yX6_undoCount cX6_undoCount 1 (some .int) 1 21 [.ref (b + t0)] M r M' :=
  cl_of hlt (by decide) (Nat.le_of_ble_eq_true rfl) (fun p e s m below meth c ls C hw hl => k_X6_undoCount C M t0 r M' h _ _ _ ht0 hw (lv_sub hl [0] rfl))
theorem cy_X6_undoCount : cl_cy yX6_undoCount cX6_undoCount 1 (some .int) 0 := ⟨in_ClothesLineModel, cd_X6_undoCount, by decide +kernel, by decide +kernel, by decide +kernel⟩
theorem vy_X6_undoCount : cl_vy yX6_undoCount := ⟨im_X6_undoCount, se_X6_undoCount⟩
def f_X6_isMinute_25 (M : cl_M) (z0 : Int32) : Option (Int32 × cl_M) := if cl_bz z0 = true then some (z0, M) else none
set_option maxHeartbeats 4000000 in
set_option maxRecDepth 100000 in
theorem k_X6_isMinute_25 {p : Program} {l : Launch} {e : Env} {s : State} {m : MethodId} {args : Array Value} {below : List Frame} {meth : Method} {c : Code} {dd : cl_D} {b : Nat} (C : cl_C p l s m args meth c cX6_isMinute RX6 2 (some .boolean) dd b) : ∀ (M : cl_M) (z0 : Int32) (r : Int32) (M' : cl_M), f_X6_isMinute_25 M z0 = some (r, M') → ∀ (H : Heap) (locs : List Loc) (ls : Array Slot), cl_H dd b M s H locs → lv_has ls 2 [] → W p l e { frames := 1, cells := 0, slots := 0, locals := 22 } s m args below meth c H locs 0 0 (cl_Zi below args s dd b r M') (F0 m 25 ls [.int z0]) := by
  have hx := C.1
  have hb := C.2.1
  have hlt := C.2.2.2.2.2.2.2.2.2.2
  have hRr := C.2.2.2.2.2.2.2.2.2.1
  intro M z0 r M' hf H locs ls hw hl
  unfold f_X6_isMinute_25 at hf
  obtain ⟨q8, hf⟩ := cl_grd hf
  obtain ⟨rfl, rfl⟩ := cl_pair hf
  exact cr_retz C hw q8 dX6_isMinute_25
def f_X6_isMinute (M : cl_M) (t0 : Nat) (a1 : Int32) : Option (Int32 × cl_M) := cl_let (cl_ms M t0 4 0) (fun M1 => (f_X6_inRange M1 a1 0 99999).bind (fun v2 => cl_b2 (f_X6_fails M1 t0 v2 1) (fun v4 M5 => if v4 = 0 then f_X6_isMinute_25 M5 1 else f_X6_isMinute_25 M5 0)))
set_option maxHeartbeats 4000000 in
set_option maxRecDepth 100000 in
theorem k_X6_isMinute {p : Program} {l : Launch} {e : Env} {s : State} {m : MethodId} {args : Array Value} {below : List Frame} {meth : Method} {c : Code} {dd : cl_D} {b : Nat} (C : cl_C p l s m args meth c cX6_isMinute RX6 2 (some .boolean) dd b) : ∀ (M : cl_M) (t0 : Nat) (a1 : Int32) (r : Int32) (M' : cl_M), f_X6_isMinute M t0 a1 = some (r, M') → ∀ (H : Heap) (locs : List Loc) (ls : Array Slot), cl_sh dd t0 = 6 → cl_H dd b M s H locs → lv_has ls 2 [(0, .ref (b + t0)), (1, .int a1)] → W p l e { frames := 1, cells := 0, slots := 0, locals := 22 } s m args below meth c H locs 0 0 (cl_Zi below args s dd b r M') (F0 m 0 ls []) := by
  have hx := C.1
  have hb := C.2.1
  have hlt := C.2.2.2.2.2.2.2.2.2.2
  have hRr := C.2.2.2.2.2.2.2.2.2.1
  intro M t0 a1 r M' hf H locs ls ht0 hw hl
  unfold f_X6_isMinute at hf
  refine lv_aload_n hx hb dX6_isMinute_0 rfl (lv_at hl 0 rfl) ?_
  refine lv_iconst (v := 0) hx hb dX6_isMinute_1 (by decide) ?_
  obtain ⟨M1, eM1, hf⟩ := cl_let_e hf
  refine fp_X6_60 C hw ht0 eM1 dX6_isMinute_2 (fun H locs hw => ?_)
  refine lv_aload_n hx hb dX6_isMinute_5 rfl (lv_at hl 0 rfl) ?_
  refine lv_iload_n hx hb dX6_isMinute_6 rfl (lv_at hl 1 rfl) ?_
  refine lv_iconst (v := 0) hx hb dX6_isMinute_7 (by decide) ?_
  refine lv_ldc (v := 99999) hx hb C.2.2.2.1 (C.2.2.2.2.1 _ kl_X6_178) dX6_isMinute_8 ?_
  obtain ⟨v2, e3, hf⟩ := cl_bind_e hf
  refine cr_Si C hw (c_X6_inRange hlt e3) cy_X6_inRange st_X6_inRange ml_X6_63 (As := [.int a1, .int 0, .int 99999]) rfl hl.1 rfl ⟨⟨Nat.le_of_ble_eq_true rfl, Nat.le_of_ble_eq_true rfl⟩, Nat.le_of_ble_eq_true rfl, Nat.le_of_ble_eq_true rfl, Nat.le_of_ble_eq_true rfl⟩ dX6_isMinute_10 (fun H locs hw => ?_)
  refine lv_iconst (v := 1) hx hb dX6_isMinute_13 (by decide) ?_
  obtain ⟨v4, M5, e6, hf⟩ := cl_b2_e hf
  refine cr_Vi C hw (c_X6_fails hlt ht0 e6) cy_X6_fails vy_X6_fails ml_X6_313 (cl_lt ht0 (by decide)) (cl_e6 ht0) rfl rfl (As := [.int v2, .int 1]) rfl hl.1 rfl ⟨⟨Nat.le_of_ble_eq_true rfl, Nat.le_of_ble_eq_true rfl⟩, Nat.le_of_ble_eq_true rfl, Nat.le_of_ble_eq_true rfl, Nat.le_of_ble_eq_true rfl⟩ dX6_isMinute_14 (fun H locs hw => ?_)
  refine lv_if_ne (tgt := 24) hx hb dX6_isMinute_17 (by decide) (fun c7 => ?_) (fun c7 => ?_)
  · have hf := cl_no c7 hf
    refine lv_iconst (v := 0) hx hb dX6_isMinute_24 (by decide) ?_
    exact k_X6_isMinute_25 C M5 0 _ _ hf _ _ _ hw (lv_sub hl [] rfl)
  · have hf := cl_yes c7 hf
    refine lv_iconst (v := 1) hx hb dX6_isMinute_20 (by decide) ?_
    refine lv_goto (tgt := 25) hx hb dX6_isMinute_21 (by decide) ?_
    exact k_X6_isMinute_25 C M5 1 _ _ hf _ _ _ hw (lv_sub hl [] rfl)
set_option maxRecDepth 100000 in
theorem c_X6_isMinute {l : Launch} {dd : cl_D} {b : Nat} (hlt : l.stackTraces = false) {M : cl_M} {t0 : Nat} {a1 : Int32}  {r : Int32} {M' : cl_M} (ht0 : cl_sh dd t0 = 6) (h : f_X6_isMinute M t0 a1 = some (r, M')) : cl_Mi l dd b yX6_isMinute cX6_isMinute 2 (some .boolean) 1 22 [.ref (b + t0), .int a1] M r M' :=
  cl_of hlt (by decide) (Nat.le_of_ble_eq_true rfl) (fun p e s m below meth c ls C hw hl => k_X6_isMinute C M t0 a1 r M' h _ _ _ ht0 hw (lv_sub hl [0, 1] rfl))
theorem cy_X6_isMinute : cl_cy yX6_isMinute cX6_isMinute 2 (some .boolean) 1 := ⟨in_ClothesLineModel, cd_X6_isMinute, by decide +kernel, by decide +kernel, by decide +kernel⟩
theorem vy_X6_isMinute : cl_vy yX6_isMinute := ⟨im_X6_isMinute, se_X6_isMinute⟩
def f_X6_windIn_17 (M : cl_M) (z0 : Int32) : Option (Int32 × cl_M) := some (z0, M)
set_option maxHeartbeats 4000000 in
set_option maxRecDepth 100000 in
theorem k_X6_windIn_17 {p : Program} {l : Launch} {e : Env} {s : State} {m : MethodId} {args : Array Value} {below : List Frame} {meth : Method} {c : Code} {dd : cl_D} {b : Nat} (C : cl_C p l s m args meth c cX6_windIn RX6 2 (some .int) dd b) : ∀ (M : cl_M) (z0 : Int32) (r : Int32) (M' : cl_M), f_X6_windIn_17 M z0 = some (r, M') → ∀ (H : Heap) (locs : List Loc) (ls : Array Slot), cl_H dd b M s H locs → lv_has ls 2 [] → W p l e { frames := 2, cells := 0, slots := 0, locals := 43 } s m args below meth c H locs 0 0 (cl_Zi below args s dd b r M') (F0 m 17 ls [.int z0]) := by
  have hx := C.1
  have hb := C.2.1
  have hlt := C.2.2.2.2.2.2.2.2.2.2
  have hRr := C.2.2.2.2.2.2.2.2.2.1
  intro M z0 r M' hf H locs ls hw hl
  unfold f_X6_windIn_17 at hf
  obtain ⟨rfl, rfl⟩ := cl_pair hf
  exact cr_reti C hw dX6_windIn_17
def f_X6_windIn (M : cl_M) (t0 : Nat) (a1 : Int32) : Option (Int32 × cl_M) := cl_b2 (f_X6_isMinute M t0 a1) (fun v1 M2 => if v1 = 0 then f_X6_windIn_17 M2 0 else (f_X6_windAt M2 t0 a1).bind (fun v5 => f_X6_windIn_17 M2 v5))
set_option maxHeartbeats 4000000 in
set_option maxRecDepth 100000 in
theorem k_X6_windIn {p : Program} {l : Launch} {e : Env} {s : State} {m : MethodId} {args : Array Value} {below : List Frame} {meth : Method} {c : Code} {dd : cl_D} {b : Nat} (C : cl_C p l s m args meth c cX6_windIn RX6 2 (some .int) dd b) : ∀ (M : cl_M) (t0 : Nat) (a1 : Int32) (r : Int32) (M' : cl_M), f_X6_windIn M t0 a1 = some (r, M') → ∀ (H : Heap) (locs : List Loc) (ls : Array Slot), cl_sh dd t0 = 6 → cl_H dd b M s H locs → lv_has ls 2 [(0, .ref (b + t0)), (1, .int a1)] → W p l e { frames := 2, cells := 0, slots := 0, locals := 43 } s m args below meth c H locs 0 0 (cl_Zi below args s dd b r M') (F0 m 0 ls []) := by
  have hx := C.1
  have hb := C.2.1
  have hlt := C.2.2.2.2.2.2.2.2.2.2
  have hRr := C.2.2.2.2.2.2.2.2.2.1
  intro M t0 a1 r M' hf H locs ls ht0 hw hl
  unfold f_X6_windIn at hf
  refine lv_aload_n hx hb dX6_windIn_0 rfl (lv_at hl 0 rfl) ?_
  refine lv_iload_n hx hb dX6_windIn_1 rfl (lv_at hl 1 rfl) ?_
  obtain ⟨v1, M2, e3, hf⟩ := cl_b2_e hf
  refine cr_Vi C hw (c_X6_isMinute hlt ht0 e3) cy_X6_isMinute vy_X6_isMinute ml_X6_317 (cl_lt ht0 (by decide)) (cl_e6 ht0) rfl rfl (As := [.int a1]) rfl hl.1 rfl ⟨⟨Nat.le_of_ble_eq_true rfl, Nat.le_of_ble_eq_true rfl⟩, Nat.le_of_ble_eq_true rfl, Nat.le_of_ble_eq_true rfl, Nat.le_of_ble_eq_true rfl⟩ dX6_windIn_2 (fun H locs hw => ?_)
  refine lv_if_eq (tgt := 16) hx hb dX6_windIn_5 (by decide) (fun c4 => ?_) (fun c4 => ?_)
  · have hf := cl_yes c4 hf
    refine lv_iconst (v := 0) hx hb dX6_windIn_16 (by decide) ?_
    exact k_X6_windIn_17 C M2 0 _ _ hf _ _ _ hw (lv_sub hl [] rfl)
  · have hf := cl_no c4 hf
    refine lv_aload_n hx hb dX6_windIn_8 rfl (lv_at hl 0 rfl) ?_
    refine lv_iload_n hx hb dX6_windIn_9 rfl (lv_at hl 1 rfl) ?_
    obtain ⟨v5, e6, hf⟩ := cl_bind_e hf
    refine cr_Vi C hw (c_X6_windAt hlt ht0 e6) cy_X6_windAt vy_X6_windAt ml_X6_72 (cl_lt ht0 (by decide)) (cl_e6 ht0) rfl rfl (As := [.int a1]) rfl hl.1 rfl ⟨⟨Nat.le_of_ble_eq_true rfl, Nat.le_of_ble_eq_true rfl⟩, Nat.le_of_ble_eq_true rfl, Nat.le_of_ble_eq_true rfl, Nat.le_of_ble_eq_true rfl⟩ dX6_windIn_10 (fun H locs hw => ?_)
    refine lv_goto (tgt := 17) hx hb dX6_windIn_13 (by decide) ?_
    exact k_X6_windIn_17 C M2 v5 _ _ hf _ _ _ hw (lv_sub hl [] rfl)
set_option maxRecDepth 100000 in
theorem c_X6_windIn {l : Launch} {dd : cl_D} {b : Nat} (hlt : l.stackTraces = false) {M : cl_M} {t0 : Nat} {a1 : Int32}  {r : Int32} {M' : cl_M} (ht0 : cl_sh dd t0 = 6) (h : f_X6_windIn M t0 a1 = some (r, M')) : cl_Mi l dd b yX6_windIn cX6_windIn 2 (some .int) 2 43 [.ref (b + t0), .int a1] M r M' :=
  cl_of hlt (by decide) (Nat.le_of_ble_eq_true rfl) (fun p e s m below meth c ls C hw hl => k_X6_windIn C M t0 a1 r M' h _ _ _ ht0 hw (lv_sub hl [0, 1] rfl))
theorem cy_X6_windIn : cl_cy yX6_windIn cX6_windIn 2 (some .int) 1 := ⟨in_ClothesLineModel, cd_X6_windIn, by decide +kernel, by decide +kernel, by decide +kernel⟩
theorem vy_X6_windIn : cl_vy yX6_windIn := ⟨im_X6_windIn, se_X6_windIn⟩
def f_X6_rainIn_17 (M : cl_M) (z0 : Int32) : Option (Int32 × cl_M) := some (z0, M)
set_option maxHeartbeats 4000000 in
set_option maxRecDepth 100000 in
theorem k_X6_rainIn_17 {p : Program} {l : Launch} {e : Env} {s : State} {m : MethodId} {args : Array Value} {below : List Frame} {meth : Method} {c : Code} {dd : cl_D} {b : Nat} (C : cl_C p l s m args meth c cX6_rainIn RX6 2 (some .int) dd b) : ∀ (M : cl_M) (z0 : Int32) (r : Int32) (M' : cl_M), f_X6_rainIn_17 M z0 = some (r, M') → ∀ (H : Heap) (locs : List Loc) (ls : Array Slot), cl_H dd b M s H locs → lv_has ls 2 [] → W p l e { frames := 2, cells := 0, slots := 0, locals := 46 } s m args below meth c H locs 0 0 (cl_Zi below args s dd b r M') (F0 m 17 ls [.int z0]) := by
  have hx := C.1
  have hb := C.2.1
  have hlt := C.2.2.2.2.2.2.2.2.2.2
  have hRr := C.2.2.2.2.2.2.2.2.2.1
  intro M z0 r M' hf H locs ls hw hl
  unfold f_X6_rainIn_17 at hf
  obtain ⟨rfl, rfl⟩ := cl_pair hf
  exact cr_reti C hw dX6_rainIn_17
def f_X6_rainIn (M : cl_M) (t0 : Nat) (a1 : Int32) : Option (Int32 × cl_M) := cl_b2 (f_X6_isMinute M t0 a1) (fun v1 M2 => if v1 = 0 then f_X6_rainIn_17 M2 0 else (f_X6_rainAt M2 t0 a1).bind (fun v5 => f_X6_rainIn_17 M2 v5))
set_option maxHeartbeats 4000000 in
set_option maxRecDepth 100000 in
theorem k_X6_rainIn {p : Program} {l : Launch} {e : Env} {s : State} {m : MethodId} {args : Array Value} {below : List Frame} {meth : Method} {c : Code} {dd : cl_D} {b : Nat} (C : cl_C p l s m args meth c cX6_rainIn RX6 2 (some .int) dd b) : ∀ (M : cl_M) (t0 : Nat) (a1 : Int32) (r : Int32) (M' : cl_M), f_X6_rainIn M t0 a1 = some (r, M') → ∀ (H : Heap) (locs : List Loc) (ls : Array Slot), cl_sh dd t0 = 6 → cl_H dd b M s H locs → lv_has ls 2 [(0, .ref (b + t0)), (1, .int a1)] → W p l e { frames := 2, cells := 0, slots := 0, locals := 46 } s m args below meth c H locs 0 0 (cl_Zi below args s dd b r M') (F0 m 0 ls []) := by
  have hx := C.1
  have hb := C.2.1
  have hlt := C.2.2.2.2.2.2.2.2.2.2
  have hRr := C.2.2.2.2.2.2.2.2.2.1
  intro M t0 a1 r M' hf H locs ls ht0 hw hl
  unfold f_X6_rainIn at hf
  refine lv_aload_n hx hb dX6_rainIn_0 rfl (lv_at hl 0 rfl) ?_
  refine lv_iload_n hx hb dX6_rainIn_1 rfl (lv_at hl 1 rfl) ?_
  obtain ⟨v1, M2, e3, hf⟩ := cl_b2_e hf
  refine cr_Vi C hw (c_X6_isMinute hlt ht0 e3) cy_X6_isMinute vy_X6_isMinute ml_X6_317 (cl_lt ht0 (by decide)) (cl_e6 ht0) rfl rfl (As := [.int a1]) rfl hl.1 rfl ⟨⟨Nat.le_of_ble_eq_true rfl, Nat.le_of_ble_eq_true rfl⟩, Nat.le_of_ble_eq_true rfl, Nat.le_of_ble_eq_true rfl, Nat.le_of_ble_eq_true rfl⟩ dX6_rainIn_2 (fun H locs hw => ?_)
  refine lv_if_eq (tgt := 16) hx hb dX6_rainIn_5 (by decide) (fun c4 => ?_) (fun c4 => ?_)
  · have hf := cl_yes c4 hf
    refine lv_iconst (v := 0) hx hb dX6_rainIn_16 (by decide) ?_
    exact k_X6_rainIn_17 C M2 0 _ _ hf _ _ _ hw (lv_sub hl [] rfl)
  · have hf := cl_no c4 hf
    refine lv_aload_n hx hb dX6_rainIn_8 rfl (lv_at hl 0 rfl) ?_
    refine lv_iload_n hx hb dX6_rainIn_9 rfl (lv_at hl 1 rfl) ?_
    obtain ⟨v5, e6, hf⟩ := cl_bind_e hf
    refine cr_Vi C hw (c_X6_rainAt hlt ht0 e6) cy_X6_rainAt vy_X6_rainAt ml_X6_67 (cl_lt ht0 (by decide)) (cl_e6 ht0) rfl rfl (As := [.int a1]) rfl hl.1 rfl ⟨⟨Nat.le_of_ble_eq_true rfl, Nat.le_of_ble_eq_true rfl⟩, Nat.le_of_ble_eq_true rfl, Nat.le_of_ble_eq_true rfl, Nat.le_of_ble_eq_true rfl⟩ dX6_rainIn_10 (fun H locs hw => ?_)
    refine lv_goto (tgt := 17) hx hb dX6_rainIn_13 (by decide) ?_
    exact k_X6_rainIn_17 C M2 v5 _ _ hf _ _ _ hw (lv_sub hl [] rfl)
set_option maxRecDepth 100000 in
theorem c_X6_rainIn {l : Launch} {dd : cl_D} {b : Nat} (hlt : l.stackTraces = false) {M : cl_M} {t0 : Nat} {a1 : Int32}  {r : Int32} {M' : cl_M} (ht0 : cl_sh dd t0 = 6) (h : f_X6_rainIn M t0 a1 = some (r, M')) : cl_Mi l dd b yX6_rainIn cX6_rainIn 2 (some .int) 2 46 [.ref (b + t0), .int a1] M r M' :=
  cl_of hlt (by decide) (Nat.le_of_ble_eq_true rfl) (fun p e s m below meth c ls C hw hl => k_X6_rainIn C M t0 a1 r M' h _ _ _ ht0 hw (lv_sub hl [0, 1] rfl))
theorem cy_X6_rainIn : cl_cy yX6_rainIn cX6_rainIn 2 (some .int) 1 := ⟨in_ClothesLineModel, cd_X6_rainIn, by decide +kernel, by decide +kernel, by decide +kernel⟩
theorem vy_X6_rainIn : cl_vy yX6_rainIn := ⟨im_X6_rainIn, se_X6_rainIn⟩
def f_X6_sunnySpots_17 (M : cl_M) (z0 : Int32) : Option (Int32 × cl_M) := some (z0, M)
set_option maxHeartbeats 4000000 in
set_option maxRecDepth 100000 in
theorem k_X6_sunnySpots_17 {p : Program} {l : Launch} {e : Env} {s : State} {m : MethodId} {args : Array Value} {below : List Frame} {meth : Method} {c : Code} {dd : cl_D} {b : Nat} (C : cl_C p l s m args meth c cX6_sunnySpots RX6 2 (some .int) dd b) : ∀ (M : cl_M) (z0 : Int32) (r : Int32) (M' : cl_M), f_X6_sunnySpots_17 M z0 = some (r, M') → ∀ (H : Heap) (locs : List Loc) (ls : Array Slot), cl_H dd b M s H locs → lv_has ls 2 [] → W p l e { frames := 3, cells := 0, slots := 0, locals := 69 } s m args below meth c H locs 0 0 (cl_Zi below args s dd b r M') (F0 m 17 ls [.int z0]) := by
  have hx := C.1
  have hb := C.2.1
  have hlt := C.2.2.2.2.2.2.2.2.2.2
  have hRr := C.2.2.2.2.2.2.2.2.2.1
  intro M z0 r M' hf H locs ls hw hl
  unfold f_X6_sunnySpots_17 at hf
  obtain ⟨rfl, rfl⟩ := cl_pair hf
  exact cr_reti C hw dX6_sunnySpots_17
def f_X6_sunnySpots (M : cl_M) (t0 : Nat) (a1 : Int32) : Option (Int32 × cl_M) := cl_b2 (f_X6_isMinute M t0 a1) (fun v1 M2 => if v1 = 0 then f_X6_sunnySpots_17 M2 0 else (f_X6_sunnyAt M2 t0 a1).bind (fun v5 => f_X6_sunnySpots_17 M2 v5))
set_option maxHeartbeats 4000000 in
set_option maxRecDepth 100000 in
theorem k_X6_sunnySpots {p : Program} {l : Launch} {e : Env} {s : State} {m : MethodId} {args : Array Value} {below : List Frame} {meth : Method} {c : Code} {dd : cl_D} {b : Nat} (C : cl_C p l s m args meth c cX6_sunnySpots RX6 2 (some .int) dd b) : ∀ (M : cl_M) (t0 : Nat) (a1 : Int32) (r : Int32) (M' : cl_M), f_X6_sunnySpots M t0 a1 = some (r, M') → ∀ (H : Heap) (locs : List Loc) (ls : Array Slot), cl_sh dd t0 = 6 → cl_H dd b M s H locs → lv_has ls 2 [(0, .ref (b + t0)), (1, .int a1)] → W p l e { frames := 3, cells := 0, slots := 0, locals := 69 } s m args below meth c H locs 0 0 (cl_Zi below args s dd b r M') (F0 m 0 ls []) := by
  have hx := C.1
  have hb := C.2.1
  have hlt := C.2.2.2.2.2.2.2.2.2.2
  have hRr := C.2.2.2.2.2.2.2.2.2.1
  intro M t0 a1 r M' hf H locs ls ht0 hw hl
  unfold f_X6_sunnySpots at hf
  refine lv_aload_n hx hb dX6_sunnySpots_0 rfl (lv_at hl 0 rfl) ?_
  refine lv_iload_n hx hb dX6_sunnySpots_1 rfl (lv_at hl 1 rfl) ?_
  obtain ⟨v1, M2, e3, hf⟩ := cl_b2_e hf
  refine cr_Vi C hw (c_X6_isMinute hlt ht0 e3) cy_X6_isMinute vy_X6_isMinute ml_X6_317 (cl_lt ht0 (by decide)) (cl_e6 ht0) rfl rfl (As := [.int a1]) rfl hl.1 rfl ⟨⟨Nat.le_of_ble_eq_true rfl, Nat.le_of_ble_eq_true rfl⟩, Nat.le_of_ble_eq_true rfl, Nat.le_of_ble_eq_true rfl, Nat.le_of_ble_eq_true rfl⟩ dX6_sunnySpots_2 (fun H locs hw => ?_)
  refine lv_if_eq (tgt := 16) hx hb dX6_sunnySpots_5 (by decide) (fun c4 => ?_) (fun c4 => ?_)
  · have hf := cl_yes c4 hf
    refine lv_iconst (v := 0) hx hb dX6_sunnySpots_16 (by decide) ?_
    exact k_X6_sunnySpots_17 C M2 0 _ _ hf _ _ _ hw (lv_sub hl [] rfl)
  · have hf := cl_no c4 hf
    refine lv_aload_n hx hb dX6_sunnySpots_8 rfl (lv_at hl 0 rfl) ?_
    refine lv_iload_n hx hb dX6_sunnySpots_9 rfl (lv_at hl 1 rfl) ?_
    obtain ⟨v5, e6, hf⟩ := cl_bind_e hf
    refine cr_Vi C hw (c_X6_sunnyAt hlt ht0 e6) cy_X6_sunnyAt vy_X6_sunnyAt ml_X6_114 (cl_lt ht0 (by decide)) (cl_e6 ht0) rfl rfl (As := [.int a1]) rfl hl.1 rfl ⟨⟨Nat.le_of_ble_eq_true rfl, Nat.le_of_ble_eq_true rfl⟩, Nat.le_of_ble_eq_true rfl, Nat.le_of_ble_eq_true rfl, Nat.le_of_ble_eq_true rfl⟩ dX6_sunnySpots_10 (fun H locs hw => ?_)
    refine lv_goto (tgt := 17) hx hb dX6_sunnySpots_13 (by decide) ?_
    exact k_X6_sunnySpots_17 C M2 v5 _ _ hf _ _ _ hw (lv_sub hl [] rfl)
set_option maxRecDepth 100000 in
theorem c_X6_sunnySpots {l : Launch} {dd : cl_D} {b : Nat} (hlt : l.stackTraces = false) {M : cl_M} {t0 : Nat} {a1 : Int32}  {r : Int32} {M' : cl_M} (ht0 : cl_sh dd t0 = 6) (h : f_X6_sunnySpots M t0 a1 = some (r, M')) : cl_Mi l dd b yX6_sunnySpots cX6_sunnySpots 2 (some .int) 3 69 [.ref (b + t0), .int a1] M r M' :=
  cl_of hlt (by decide) (Nat.le_of_ble_eq_true rfl) (fun p e s m below meth c ls C hw hl => k_X6_sunnySpots C M t0 a1 r M' h _ _ _ ht0 hw (lv_sub hl [0, 1] rfl))
theorem cy_X6_sunnySpots : cl_cy yX6_sunnySpots cX6_sunnySpots 2 (some .int) 1 := ⟨in_ClothesLineModel, cd_X6_sunnySpots, by decide +kernel, by decide +kernel, by decide +kernel⟩
theorem vy_X6_sunnySpots : cl_vy yX6_sunnySpots := ⟨im_X6_sunnySpots, se_X6_sunnySpots⟩
def f_X6_smokySpots_17 (M : cl_M) (z0 : Int32) : Option (Int32 × cl_M) := some (z0, M)
set_option maxHeartbeats 4000000 in
set_option maxRecDepth 100000 in
theorem k_X6_smokySpots_17 {p : Program} {l : Launch} {e : Env} {s : State} {m : MethodId} {args : Array Value} {below : List Frame} {meth : Method} {c : Code} {dd : cl_D} {b : Nat} (C : cl_C p l s m args meth c cX6_smokySpots RX6 2 (some .int) dd b) : ∀ (M : cl_M) (z0 : Int32) (r : Int32) (M' : cl_M), f_X6_smokySpots_17 M z0 = some (r, M') → ∀ (H : Heap) (locs : List Loc) (ls : Array Slot), cl_H dd b M s H locs → lv_has ls 2 [] → W p l e { frames := 2, cells := 0, slots := 0, locals := 45 } s m args below meth c H locs 0 0 (cl_Zi below args s dd b r M') (F0 m 17 ls [.int z0]) := by
  have hx := C.1
  have hb := C.2.1
  have hlt := C.2.2.2.2.2.2.2.2.2.2
  have hRr := C.2.2.2.2.2.2.2.2.2.1
  intro M z0 r M' hf H locs ls hw hl
  unfold f_X6_smokySpots_17 at hf
  obtain ⟨rfl, rfl⟩ := cl_pair hf
  exact cr_reti C hw dX6_smokySpots_17
def f_X6_smokySpots (M : cl_M) (t0 : Nat) (a1 : Int32) : Option (Int32 × cl_M) := cl_b2 (f_X6_isMinute M t0 a1) (fun v1 M2 => if v1 = 0 then f_X6_smokySpots_17 M2 0 else (f_X6_smokyAt M2 t0 a1).bind (fun v5 => f_X6_smokySpots_17 M2 v5))
set_option maxHeartbeats 4000000 in
set_option maxRecDepth 100000 in
theorem k_X6_smokySpots {p : Program} {l : Launch} {e : Env} {s : State} {m : MethodId} {args : Array Value} {below : List Frame} {meth : Method} {c : Code} {dd : cl_D} {b : Nat} (C : cl_C p l s m args meth c cX6_smokySpots RX6 2 (some .int) dd b) : ∀ (M : cl_M) (t0 : Nat) (a1 : Int32) (r : Int32) (M' : cl_M), f_X6_smokySpots M t0 a1 = some (r, M') → ∀ (H : Heap) (locs : List Loc) (ls : Array Slot), cl_sh dd t0 = 6 → cl_H dd b M s H locs → lv_has ls 2 [(0, .ref (b + t0)), (1, .int a1)] → W p l e { frames := 2, cells := 0, slots := 0, locals := 45 } s m args below meth c H locs 0 0 (cl_Zi below args s dd b r M') (F0 m 0 ls []) := by
  have hx := C.1
  have hb := C.2.1
  have hlt := C.2.2.2.2.2.2.2.2.2.2
  have hRr := C.2.2.2.2.2.2.2.2.2.1
  intro M t0 a1 r M' hf H locs ls ht0 hw hl
  unfold f_X6_smokySpots at hf
  refine lv_aload_n hx hb dX6_smokySpots_0 rfl (lv_at hl 0 rfl) ?_
  refine lv_iload_n hx hb dX6_smokySpots_1 rfl (lv_at hl 1 rfl) ?_
  obtain ⟨v1, M2, e3, hf⟩ := cl_b2_e hf
  refine cr_Vi C hw (c_X6_isMinute hlt ht0 e3) cy_X6_isMinute vy_X6_isMinute ml_X6_317 (cl_lt ht0 (by decide)) (cl_e6 ht0) rfl rfl (As := [.int a1]) rfl hl.1 rfl ⟨⟨Nat.le_of_ble_eq_true rfl, Nat.le_of_ble_eq_true rfl⟩, Nat.le_of_ble_eq_true rfl, Nat.le_of_ble_eq_true rfl, Nat.le_of_ble_eq_true rfl⟩ dX6_smokySpots_2 (fun H locs hw => ?_)
  refine lv_if_eq (tgt := 16) hx hb dX6_smokySpots_5 (by decide) (fun c4 => ?_) (fun c4 => ?_)
  · have hf := cl_yes c4 hf
    refine lv_iconst (v := 0) hx hb dX6_smokySpots_16 (by decide) ?_
    exact k_X6_smokySpots_17 C M2 0 _ _ hf _ _ _ hw (lv_sub hl [] rfl)
  · have hf := cl_no c4 hf
    refine lv_aload_n hx hb dX6_smokySpots_8 rfl (lv_at hl 0 rfl) ?_
    refine lv_iload_n hx hb dX6_smokySpots_9 rfl (lv_at hl 1 rfl) ?_
    obtain ⟨v5, e6, hf⟩ := cl_bind_e hf
    refine cr_Vi C hw (c_X6_smokyAt hlt ht0 e6) cy_X6_smokyAt vy_X6_smokyAt ml_X6_123 (cl_lt ht0 (by decide)) (cl_e6 ht0) rfl rfl (As := [.int a1]) rfl hl.1 rfl ⟨⟨Nat.le_of_ble_eq_true rfl, Nat.le_of_ble_eq_true rfl⟩, Nat.le_of_ble_eq_true rfl, Nat.le_of_ble_eq_true rfl, Nat.le_of_ble_eq_true rfl⟩ dX6_smokySpots_10 (fun H locs hw => ?_)
    refine lv_goto (tgt := 17) hx hb dX6_smokySpots_13 (by decide) ?_
    exact k_X6_smokySpots_17 C M2 v5 _ _ hf _ _ _ hw (lv_sub hl [] rfl)
set_option maxRecDepth 100000 in
theorem c_X6_smokySpots {l : Launch} {dd : cl_D} {b : Nat} (hlt : l.stackTraces = false) {M : cl_M} {t0 : Nat} {a1 : Int32}  {r : Int32} {M' : cl_M} (ht0 : cl_sh dd t0 = 6) (h : f_X6_smokySpots M t0 a1 = some (r, M')) : cl_Mi l dd b yX6_smokySpots cX6_smokySpots 2 (some .int) 2 45 [.ref (b + t0), .int a1] M r M' :=
  cl_of hlt (by decide) (Nat.le_of_ble_eq_true rfl) (fun p e s m below meth c ls C hw hl => k_X6_smokySpots C M t0 a1 r M' h _ _ _ ht0 hw (lv_sub hl [0, 1] rfl))
theorem cy_X6_smokySpots : cl_cy yX6_smokySpots cX6_smokySpots 2 (some .int) 1 := ⟨in_ClothesLineModel, cd_X6_smokySpots, by decide +kernel, by decide +kernel, by decide +kernel⟩
theorem vy_X6_smokySpots : cl_vy yX6_smokySpots := ⟨im_X6_smokySpots, se_X6_smokySpots⟩
def f_X6_minutesToRain_98 (r9 : cl_M → Nat → Int32 → Int32 → Option (Int32 × cl_M)) (M : cl_M) (t0 : Nat) (a2 : Int32) (z0 : Int32) : Option (Int32 × cl_M) := cl_let (a2 + 1) (fun v9 => r9 M t0 z0 v9)
set_option maxHeartbeats 4000000 in
set_option maxRecDepth 100000 in
theorem k_X6_minutesToRain_98 {p : Program} {l : Launch} {e : Env} {s : State} {m : MethodId} {args : Array Value} {below : List Frame} {meth : Method} {c : Code} {dd : cl_D} {b : Nat} (C : cl_C p l s m args meth c cX6_minutesToRain RX6 6 (some .int) dd b) {r9 : cl_M → Nat → Int32 → Int32 → Option (Int32 × cl_M)} (hr9 : ∀ (M : cl_M) (t0 : Nat) (a1 : Int32) (a2 : Int32) (r : Int32) (M' : cl_M), r9 M t0 a1 a2 = some (r, M') → ∀ (H : Heap) (locs : List Loc) (ls : Array Slot), cl_sh dd t0 = 6 → cl_H dd b M s H locs → lv_has ls 6 [(0, .ref (b + t0)), (1, .int a1), (2, .int a2)] → W p l e { frames := 1, cells := 0, slots := 0, locals := 13 } s m args below meth c H locs 0 0 (cl_Zi below args s dd b r M') (F0 m 9 ls [])) : ∀ (M : cl_M) (t0 : Nat) (a2 : Int32) (z0 : Int32) (r : Int32) (M' : cl_M), f_X6_minutesToRain_98 r9 M t0 a2 z0 = some (r, M') → ∀ (H : Heap) (locs : List Loc) (ls : Array Slot), cl_sh dd t0 = 6 → cl_H dd b M s H locs → lv_has ls 6 [(0, .ref (b + t0)), (2, .int a2)] → W p l e { frames := 1, cells := 0, slots := 0, locals := 13 } s m args below meth c H locs 0 0 (cl_Zi below args s dd b r M') (F0 m 98 ls [.int z0]) := by
  have hx := C.1
  have hb := C.2.1
  have hlt := C.2.2.2.2.2.2.2.2.2.2
  have hRr := C.2.2.2.2.2.2.2.2.2.1
  intro M t0 a2 z0 r M' hf H locs ls ht0 hw hl
  unfold f_X6_minutesToRain_98 at hf
  refine lv_istore_n (lv' := [(1, .int z0), (0, .ref (b + t0)), (2, .int a2)]) hx hb dX6_minutesToRain_98 rfl hl (by decide) rfl (fun ls hl => ?_)
  obtain ⟨v9, ev9, hf⟩ := cl_let_e hf
  refine lv_iinc (v := v9) (lv' := [(2, .int v9), (1, .int z0), (0, .ref (b + t0))]) hx hb dX6_minutesToRain_99 hl (k := 2) rfl (by rw [ev9]; rfl) (by decide) rfl (fun ls hl => ?_)
  refine lv_goto (tgt := 9) hx hb dX6_minutesToRain_102 (by decide) ?_
  exact hr9 M t0 z0 v9 _ _ hf _ _ _ ht0 hw (lv_sub hl [2, 1, 0] rfl)
def f_X6_minutesToRain_97 (r9 : cl_M → Nat → Int32 → Int32 → Option (Int32 × cl_M)) (M : cl_M) (t0 : Nat) (a1 : Int32) (a2 : Int32) : Option (Int32 × cl_M) := f_X6_minutesToRain_98 r9 M t0 a2 a1
set_option maxHeartbeats 4000000 in
set_option maxRecDepth 100000 in
theorem k_X6_minutesToRain_97 {p : Program} {l : Launch} {e : Env} {s : State} {m : MethodId} {args : Array Value} {below : List Frame} {meth : Method} {c : Code} {dd : cl_D} {b : Nat} (C : cl_C p l s m args meth c cX6_minutesToRain RX6 6 (some .int) dd b) {r9 : cl_M → Nat → Int32 → Int32 → Option (Int32 × cl_M)} (hr9 : ∀ (M : cl_M) (t0 : Nat) (a1 : Int32) (a2 : Int32) (r : Int32) (M' : cl_M), r9 M t0 a1 a2 = some (r, M') → ∀ (H : Heap) (locs : List Loc) (ls : Array Slot), cl_sh dd t0 = 6 → cl_H dd b M s H locs → lv_has ls 6 [(0, .ref (b + t0)), (1, .int a1), (2, .int a2)] → W p l e { frames := 1, cells := 0, slots := 0, locals := 13 } s m args below meth c H locs 0 0 (cl_Zi below args s dd b r M') (F0 m 9 ls [])) : ∀ (M : cl_M) (t0 : Nat) (a1 : Int32) (a2 : Int32) (r : Int32) (M' : cl_M), f_X6_minutesToRain_97 r9 M t0 a1 a2 = some (r, M') → ∀ (H : Heap) (locs : List Loc) (ls : Array Slot), cl_sh dd t0 = 6 → cl_H dd b M s H locs → lv_has ls 6 [(0, .ref (b + t0)), (1, .int a1), (2, .int a2)] → W p l e { frames := 1, cells := 0, slots := 0, locals := 13 } s m args below meth c H locs 0 0 (cl_Zi below args s dd b r M') (F0 m 97 ls []) := by
  have hx := C.1
  have hb := C.2.1
  have hlt := C.2.2.2.2.2.2.2.2.2.2
  have hRr := C.2.2.2.2.2.2.2.2.2.1
  intro M t0 a1 a2 r M' hf H locs ls ht0 hw hl
  unfold f_X6_minutesToRain_97 at hf
  refine lv_iload_n hx hb dX6_minutesToRain_97 rfl (lv_at hl 1 rfl) ?_
  exact k_X6_minutesToRain_98 C hr9 M t0 a2 a1 _ _ hf _ _ _ ht0 hw (lv_sub hl [0, 2] rfl)
def f_X6_minutesToRain_92 (r9 : cl_M → Nat → Int32 → Int32 → Option (Int32 × cl_M)) (M : cl_M) (t0 : Nat) (a2 : Int32) (a4 : Int32) : Option (Int32 × cl_M) := f_X6_minutesToRain_98 r9 M t0 a2 a4
set_option maxHeartbeats 4000000 in
set_option maxRecDepth 100000 in
theorem k_X6_minutesToRain_92 {p : Program} {l : Launch} {e : Env} {s : State} {m : MethodId} {args : Array Value} {below : List Frame} {meth : Method} {c : Code} {dd : cl_D} {b : Nat} (C : cl_C p l s m args meth c cX6_minutesToRain RX6 6 (some .int) dd b) {r9 : cl_M → Nat → Int32 → Int32 → Option (Int32 × cl_M)} (hr9 : ∀ (M : cl_M) (t0 : Nat) (a1 : Int32) (a2 : Int32) (r : Int32) (M' : cl_M), r9 M t0 a1 a2 = some (r, M') → ∀ (H : Heap) (locs : List Loc) (ls : Array Slot), cl_sh dd t0 = 6 → cl_H dd b M s H locs → lv_has ls 6 [(0, .ref (b + t0)), (1, .int a1), (2, .int a2)] → W p l e { frames := 1, cells := 0, slots := 0, locals := 13 } s m args below meth c H locs 0 0 (cl_Zi below args s dd b r M') (F0 m 9 ls [])) : ∀ (M : cl_M) (t0 : Nat) (a2 : Int32) (a4 : Int32) (r : Int32) (M' : cl_M), f_X6_minutesToRain_92 r9 M t0 a2 a4 = some (r, M') → ∀ (H : Heap) (locs : List Loc) (ls : Array Slot), cl_sh dd t0 = 6 → cl_H dd b M s H locs → lv_has ls 6 [(0, .ref (b + t0)), (2, .int a2), (4, .int a4)] → W p l e { frames := 1, cells := 0, slots := 0, locals := 13 } s m args below meth c H locs 0 0 (cl_Zi below args s dd b r M') (F0 m 92 ls []) := by
  have hx := C.1
  have hb := C.2.1
  have hlt := C.2.2.2.2.2.2.2.2.2.2
  have hRr := C.2.2.2.2.2.2.2.2.2.1
  intro M t0 a2 a4 r M' hf H locs ls ht0 hw hl
  unfold f_X6_minutesToRain_92 at hf
  refine lv_iload hx hb dX6_minutesToRain_92 (lv_at hl 2 rfl) ?_
  refine lv_goto (tgt := 98) hx hb dX6_minutesToRain_94 (by decide) ?_
  exact k_X6_minutesToRain_98 C hr9 M t0 a2 a4 _ _ hf _ _ _ ht0 hw (lv_sub hl [0, 1] rfl)
def f_X6_minutesToRain_74 (r9 : cl_M → Nat → Int32 → Int32 → Option (Int32 × cl_M)) (M : cl_M) (t0 : Nat) (a1 : Int32) (a2 : Int32) (a4 : Int32) (z0 : Int32) : Option (Int32 × cl_M) := if z0 = 0 then if a1 = (-1) then f_X6_minutesToRain_92 r9 M t0 a2 a4 else if a1 ≤ a4 then f_X6_minutesToRain_97 r9 M t0 a1 a2 else f_X6_minutesToRain_92 r9 M t0 a2 a4 else f_X6_minutesToRain_97 r9 M t0 a1 a2
set_option maxHeartbeats 4000000 in
set_option maxRecDepth 100000 in
theorem k_X6_minutesToRain_74 {p : Program} {l : Launch} {e : Env} {s : State} {m : MethodId} {args : Array Value} {below : List Frame} {meth : Method} {c : Code} {dd : cl_D} {b : Nat} (C : cl_C p l s m args meth c cX6_minutesToRain RX6 6 (some .int) dd b) {r9 : cl_M → Nat → Int32 → Int32 → Option (Int32 × cl_M)} (hr9 : ∀ (M : cl_M) (t0 : Nat) (a1 : Int32) (a2 : Int32) (r : Int32) (M' : cl_M), r9 M t0 a1 a2 = some (r, M') → ∀ (H : Heap) (locs : List Loc) (ls : Array Slot), cl_sh dd t0 = 6 → cl_H dd b M s H locs → lv_has ls 6 [(0, .ref (b + t0)), (1, .int a1), (2, .int a2)] → W p l e { frames := 1, cells := 0, slots := 0, locals := 13 } s m args below meth c H locs 0 0 (cl_Zi below args s dd b r M') (F0 m 9 ls [])) : ∀ (M : cl_M) (t0 : Nat) (a1 : Int32) (a2 : Int32) (a4 : Int32) (z0 : Int32) (r : Int32) (M' : cl_M), f_X6_minutesToRain_74 r9 M t0 a1 a2 a4 z0 = some (r, M') → ∀ (H : Heap) (locs : List Loc) (ls : Array Slot), cl_sh dd t0 = 6 → cl_H dd b M s H locs → lv_has ls 6 [(0, .ref (b + t0)), (1, .int a1), (2, .int a2), (4, .int a4)] → W p l e { frames := 1, cells := 0, slots := 0, locals := 13 } s m args below meth c H locs 0 0 (cl_Zi below args s dd b r M') (F0 m 74 ls [.int z0]) := by
  have hx := C.1
  have hb := C.2.1
  have hlt := C.2.2.2.2.2.2.2.2.2.2
  have hRr := C.2.2.2.2.2.2.2.2.2.1
  intro M t0 a1 a2 a4 z0 r M' hf H locs ls ht0 hw hl
  unfold f_X6_minutesToRain_74 at hf
  refine lv_istore (lv' := [(5, .int z0), (0, .ref (b + t0)), (1, .int a1), (2, .int a2), (4, .int a4)]) hx hb dX6_minutesToRain_74 hl (by decide) rfl (fun ls hl => ?_)
  refine lv_iload hx hb dX6_minutesToRain_76 (lv_at hl 0 rfl) ?_
  refine lv_if_ne (tgt := 97) hx hb dX6_minutesToRain_78 (by decide) (fun c8 => ?_) (fun c8 => ?_)
  · have hf := cl_no c8 hf
    exact k_X6_minutesToRain_97 C hr9 M t0 a1 a2 _ _ hf _ _ _ ht0 hw (lv_sub hl [1, 2, 3] rfl)
  · have hf := cl_yes c8 hf
    refine lv_iload_n hx hb dX6_minutesToRain_81 rfl (lv_at hl 2 rfl) ?_
    refine lv_iconst (v := (-1)) hx hb dX6_minutesToRain_82 (by decide) ?_
    refine lv_icmp_eq (tgt := 92) hx hb dX6_minutesToRain_83 (by decide) (fun c10 => ?_) (fun c10 => ?_)
    · have hf := cl_yes c10 hf
      exact k_X6_minutesToRain_92 C hr9 M t0 a2 a4 _ _ hf _ _ _ ht0 hw (lv_sub hl [1, 3, 4] rfl)
    · have hf := cl_no c10 hf
      refine lv_iload hx hb dX6_minutesToRain_86 (lv_at hl 4 rfl) ?_
      refine lv_iload_n hx hb dX6_minutesToRain_88 rfl (lv_at hl 2 rfl) ?_
      refine lv_icmp_ge (tgt := 97) hx hb dX6_minutesToRain_89 (by decide) (fun c11 => ?_) (fun c11 => ?_)
      · have hf := cl_yes c11 hf
        exact k_X6_minutesToRain_97 C hr9 M t0 a1 a2 _ _ hf _ _ _ ht0 hw (lv_sub hl [1, 2, 3] rfl)
      · have hf := cl_no c11 hf
        exact k_X6_minutesToRain_92 C hr9 M t0 a2 a4 _ _ hf _ _ _ ht0 hw (lv_sub hl [1, 3, 4] rfl)
def f_X6_minutesToRain_9 : Nat → cl_M → Nat → Int32 → Int32 → Option (Int32 × cl_M)
  | 0, _, _, _, _ => none
  | k + 1, M, t0, a1, a2 => if (M (t0 + 2) 5) ≤ a2 then some (a1, M) else if cl_inb (19 + (3 * a2)) 149 = true then cl_let (M (t0 + 2) ((19 + (3 * a2)).toNatClampNeg)) (fun v4 => cl_let (if 0 < (v4 - (M (t0 + 2) 0)) then (v4 - (M (t0 + 2) 0)) else 0) (fun v5 => if cl_inb ((19 + (3 * a2)) + 1) 149 = true then if (M (t0 + 2) 0) < (v4 + (M (t0 + 2) (((19 + (3 * a2)) + 1).toNatClampNeg))) then f_X6_minutesToRain_74 (f_X6_minutesToRain_9 k) M t0 a1 a2 v5 0 else f_X6_minutesToRain_74 (f_X6_minutesToRain_9 k) M t0 a1 a2 v5 1 else none)) else none
set_option maxHeartbeats 4000000 in
set_option maxRecDepth 100000 in
theorem k_X6_minutesToRain_9 {p : Program} {l : Launch} {e : Env} {s : State} {m : MethodId} {args : Array Value} {below : List Frame} {meth : Method} {c : Code} {dd : cl_D} {b : Nat} (C : cl_C p l s m args meth c cX6_minutesToRain RX6 6 (some .int) dd b) : ∀ (k : Nat), ∀ (M : cl_M) (t0 : Nat) (a1 : Int32) (a2 : Int32) (r : Int32) (M' : cl_M), f_X6_minutesToRain_9 k M t0 a1 a2 = some (r, M') → ∀ (H : Heap) (locs : List Loc) (ls : Array Slot), cl_sh dd t0 = 6 → cl_H dd b M s H locs → lv_has ls 6 [(0, .ref (b + t0)), (1, .int a1), (2, .int a2)] → W p l e { frames := 1, cells := 0, slots := 0, locals := 13 } s m args below meth c H locs 0 0 (cl_Zi below args s dd b r M') (F0 m 9 ls []) := by
  have hx := C.1
  have hb := C.2.1
  have hlt := C.2.2.2.2.2.2.2.2.2.2
  have hRr := C.2.2.2.2.2.2.2.2.2.1
  intro k
  induction k with
  | zero =>
    intro M t0 a1 a2 r M' hf H locs ls ht0 hw hl
    rw [f_X6_minutesToRain_9] at hf
    cases hf
  | succ k ih =>
    intro M t0 a1 a2 r M' hf H locs ls ht0 hw hl
    rw [f_X6_minutesToRain_9] at hf
    refine lv_iload_n hx hb dX6_minutesToRain_9 rfl (lv_at hl 2 rfl) ?_
    refine lv_aload_n hx hb dX6_minutesToRain_10 rfl (lv_at hl 0 rfl) ?_
    refine fg_X6_17 C hw ht0 dX6_minutesToRain_11 ?_
    refine lv_iconst (v := 5) hx hb dX6_minutesToRain_14 (by decide) ?_
    refine cr_iald C hw (sh_6_5 ht0).1 (sh_6_5 ht0).2 (by decide) (k := 5) rfl dX6_minutesToRain_15 ?_
    refine lv_icmp_ge (tgt := 105) hx hb dX6_minutesToRain_16 (by decide) (fun c2 => ?_) (fun c2 => ?_)
    · have hf := cl_yes c2 hf
      refine lv_iload_n hx hb dX6_minutesToRain_105 rfl (lv_at hl 1 rfl) ?_
      obtain ⟨rfl, rfl⟩ := cl_pair hf
      exact cr_reti C hw dX6_minutesToRain_106
    · have hf := cl_no c2 hf
      refine lv_aload_n hx hb dX6_minutesToRain_19 rfl (lv_at hl 0 rfl) ?_
      refine fg_X6_17 C hw ht0 dX6_minutesToRain_20 ?_
      refine lv_bipush (v := 19) hx hb dX6_minutesToRain_23 (by decide) ?_
      refine lv_iconst (v := 3) hx hb dX6_minutesToRain_25 (by decide) ?_
      refine lv_iload_n hx hb dX6_minutesToRain_26 rfl (lv_at hl 2 rfl) ?_
      refine lv_imul hx hb dX6_minutesToRain_27 ?_
      refine lv_iadd hx hb dX6_minutesToRain_28 ?_
      obtain ⟨q3, hf⟩ := cl_grd hf
      refine cr_iald C hw (sh_6_5 ht0).1 (sh_6_5 ht0).2 q3 (k := (19 + (3 * a2)).toNatClampNeg) rfl dX6_minutesToRain_29 ?_
      obtain ⟨v4, ev4, hf⟩ := cl_let_e hf
      refine cr_top ev4 ?_
      refine lv_istore_n (lv' := [(3, .int v4), (0, .ref (b + t0)), (1, .int a1), (2, .int a2)]) hx hb dX6_minutesToRain_30 rfl hl (by decide) rfl (fun ls hl => ?_)
      refine lv_iconst (v := 0) hx hb dX6_minutesToRain_31 (by decide) ?_
      refine lv_iload_n hx hb dX6_minutesToRain_32 rfl (lv_at hl 0 rfl) ?_
      refine lv_aload_n hx hb dX6_minutesToRain_33 rfl (lv_at hl 1 rfl) ?_
      refine fg_X6_17 C hw ht0 dX6_minutesToRain_34 ?_
      refine lv_iconst (v := 0) hx hb dX6_minutesToRain_37 (by decide) ?_
      refine cr_iald C hw (sh_6_5 ht0).1 (sh_6_5 ht0).2 (by decide) (k := 0) rfl dX6_minutesToRain_38 ?_
      refine lv_isub hx hb dX6_minutesToRain_39 ?_
      refine cr_max C ml_X6_126 st_math_max in_math cd_math_max hl.1 ⟨Nat.le_of_ble_eq_true rfl, Nat.le_of_ble_eq_true rfl, Nat.le_of_ble_eq_true rfl, Nat.le_of_ble_eq_true rfl⟩ dX6_minutesToRain_40 ?_
      obtain ⟨v5, ev5, hf⟩ := cl_let_e hf
      refine cr_top ev5 ?_
      refine lv_istore (lv' := [(4, .int v5), (3, .int v4), (0, .ref (b + t0)), (1, .int a1), (2, .int a2)]) hx hb dX6_minutesToRain_43 hl (by decide) rfl (fun ls hl => ?_)
      refine lv_iload_n hx hb dX6_minutesToRain_45 rfl (lv_at hl 1 rfl) ?_
      refine lv_aload_n hx hb dX6_minutesToRain_46 rfl (lv_at hl 2 rfl) ?_
      refine fg_X6_17 C hw ht0 dX6_minutesToRain_47 ?_
      refine lv_bipush (v := 19) hx hb dX6_minutesToRain_50 (by decide) ?_
      refine lv_iconst (v := 3) hx hb dX6_minutesToRain_52 (by decide) ?_
      refine lv_iload_n hx hb dX6_minutesToRain_53 rfl (lv_at hl 4 rfl) ?_
      refine lv_imul hx hb dX6_minutesToRain_54 ?_
      refine lv_iadd hx hb dX6_minutesToRain_55 ?_
      refine lv_iconst (v := 1) hx hb dX6_minutesToRain_56 (by decide) ?_
      refine lv_iadd hx hb dX6_minutesToRain_57 ?_
      obtain ⟨q6, hf⟩ := cl_grd hf
      refine cr_iald C hw (sh_6_5 ht0).1 (sh_6_5 ht0).2 q6 (k := ((19 + (3 * a2)) + 1).toNatClampNeg) rfl dX6_minutesToRain_58 ?_
      refine lv_iadd hx hb dX6_minutesToRain_59 ?_
      refine lv_aload_n hx hb dX6_minutesToRain_60 rfl (lv_at hl 2 rfl) ?_
      refine fg_X6_17 C hw ht0 dX6_minutesToRain_61 ?_
      refine lv_iconst (v := 0) hx hb dX6_minutesToRain_64 (by decide) ?_
      refine cr_iald C hw (sh_6_5 ht0).1 (sh_6_5 ht0).2 (by decide) (k := 0) rfl dX6_minutesToRain_65 ?_
      refine lv_icmp_gt (tgt := 73) hx hb dX6_minutesToRain_66 (by decide) (fun c7 => ?_) (fun c7 => ?_)
      · have hf := cl_yes c7 hf
        refine lv_iconst (v := 0) hx hb dX6_minutesToRain_73 (by decide) ?_
        exact k_X6_minutesToRain_74 C ih M t0 a1 a2 v5 0 _ _ hf _ _ _ ht0 hw (lv_sub hl [2, 3, 4, 0] rfl)
      · have hf := cl_no c7 hf
        refine lv_iconst (v := 1) hx hb dX6_minutesToRain_69 (by decide) ?_
        refine lv_goto (tgt := 74) hx hb dX6_minutesToRain_70 (by decide) ?_
        exact k_X6_minutesToRain_74 C ih M t0 a1 a2 v5 1 _ _ hf _ _ _ ht0 hw (lv_sub hl [2, 3, 4, 0] rfl)
def f_X6_minutesToRain (M : cl_M) (t0 : Nat) : Option (Int32 × cl_M) := cl_let (cl_ms M t0 4 0) (fun M1 => f_X6_minutesToRain_9 cl_F M1 t0 (-1) 0)
set_option maxHeartbeats 4000000 in
set_option maxRecDepth 100000 in
theorem k_X6_minutesToRain {p : Program} {l : Launch} {e : Env} {s : State} {m : MethodId} {args : Array Value} {below : List Frame} {meth : Method} {c : Code} {dd : cl_D} {b : Nat} (C : cl_C p l s m args meth c cX6_minutesToRain RX6 6 (some .int) dd b) : ∀ (M : cl_M) (t0 : Nat) (r : Int32) (M' : cl_M), f_X6_minutesToRain M t0 = some (r, M') → ∀ (H : Heap) (locs : List Loc) (ls : Array Slot), cl_sh dd t0 = 6 → cl_H dd b M s H locs → lv_has ls 6 [(0, .ref (b + t0))] → W p l e { frames := 1, cells := 0, slots := 0, locals := 13 } s m args below meth c H locs 0 0 (cl_Zi below args s dd b r M') (F0 m 0 ls []) := by
  have hx := C.1
  have hb := C.2.1
  have hlt := C.2.2.2.2.2.2.2.2.2.2
  have hRr := C.2.2.2.2.2.2.2.2.2.1
  intro M t0 r M' hf H locs ls ht0 hw hl
  unfold f_X6_minutesToRain at hf
  refine lv_aload_n hx hb dX6_minutesToRain_0 rfl (lv_at hl 0 rfl) ?_
  refine lv_iconst (v := 0) hx hb dX6_minutesToRain_1 (by decide) ?_
  obtain ⟨M1, eM1, hf⟩ := cl_let_e hf
  refine fp_X6_60 C hw ht0 eM1 dX6_minutesToRain_2 (fun H locs hw => ?_)
  refine lv_iconst (v := (-1)) hx hb dX6_minutesToRain_5 (by decide) ?_
  refine lv_istore_n (lv' := [(1, .int (-1)), (0, .ref (b + t0))]) hx hb dX6_minutesToRain_6 rfl hl (by decide) rfl (fun ls hl => ?_)
  refine lv_iconst (v := 0) hx hb dX6_minutesToRain_7 (by decide) ?_
  refine lv_istore_n (lv' := [(2, .int 0), (1, .int (-1)), (0, .ref (b + t0))]) hx hb dX6_minutesToRain_8 rfl hl (by decide) rfl (fun ls hl => ?_)
  exact k_X6_minutesToRain_9 C cl_F M1 t0 (-1) 0 _ _ hf _ _ _ ht0 hw (lv_sub hl [2, 1, 0] rfl)
set_option maxRecDepth 100000 in
theorem c_X6_minutesToRain {l : Launch} {dd : cl_D} {b : Nat} (hlt : l.stackTraces = false) {M : cl_M} {t0 : Nat}  {r : Int32} {M' : cl_M} (ht0 : cl_sh dd t0 = 6) (h : f_X6_minutesToRain M t0 = some (r, M')) : cl_Mi l dd b yX6_minutesToRain cX6_minutesToRain 6 (some .int) 1 13 [.ref (b + t0)] M r M' :=
  cl_of hlt (by decide) (Nat.le_of_ble_eq_true rfl) (fun p e s m below meth c ls C hw hl => k_X6_minutesToRain C M t0 r M' h _ _ _ ht0 hw (lv_sub hl [0] rfl))
theorem cy_X6_minutesToRain : cl_cy yX6_minutesToRain cX6_minutesToRain 6 (some .int) 0 := ⟨in_ClothesLineModel, cd_X6_minutesToRain, by decide +kernel, by decide +kernel, by decide +kernel⟩
theorem vy_X6_minutesToRain : cl_vy yX6_minutesToRain := ⟨im_X6_minutesToRain, se_X6_minutesToRain⟩
def f_X6_woodenLeft (M : cl_M) (t0 : Nat) : Option (Int32 × cl_M) := cl_b2 (f_X6_plain M t0 (M (t0 + 2) 2)) (fun v1 M2 => some (v1, M2))
set_option maxHeartbeats 4000000 in
set_option maxRecDepth 100000 in
theorem k_X6_woodenLeft {p : Program} {l : Launch} {e : Env} {s : State} {m : MethodId} {args : Array Value} {below : List Frame} {meth : Method} {c : Code} {dd : cl_D} {b : Nat} (C : cl_C p l s m args meth c cX6_woodenLeft RX6 1 (some .int) dd b) : ∀ (M : cl_M) (t0 : Nat) (r : Int32) (M' : cl_M), f_X6_woodenLeft M t0 = some (r, M') → ∀ (H : Heap) (locs : List Loc) (ls : Array Slot), cl_sh dd t0 = 6 → cl_H dd b M s H locs → lv_has ls 1 [(0, .ref (b + t0))] → W p l e { frames := 1, cells := 0, slots := 0, locals := 21 } s m args below meth c H locs 0 0 (cl_Zi below args s dd b r M') (F0 m 0 ls []) := by
  have hx := C.1
  have hb := C.2.1
  have hlt := C.2.2.2.2.2.2.2.2.2.2
  have hRr := C.2.2.2.2.2.2.2.2.2.1
  intro M t0 r M' hf H locs ls ht0 hw hl
  unfold f_X6_woodenLeft at hf
  refine lv_aload_n hx hb dX6_woodenLeft_0 rfl (lv_at hl 0 rfl) ?_
  refine lv_aload_n hx hb dX6_woodenLeft_1 rfl (lv_at hl 0 rfl) ?_
  refine fg_X6_17 C hw ht0 dX6_woodenLeft_2 ?_
  refine lv_iconst (v := 2) hx hb dX6_woodenLeft_5 (by decide) ?_
  refine cr_iald C hw (sh_6_5 ht0).1 (sh_6_5 ht0).2 (by decide) (k := 2) rfl dX6_woodenLeft_6 ?_
  obtain ⟨v1, M2, e3, hf⟩ := cl_b2_e hf
  refine cr_Vi C hw (c_X6_plain hlt ht0 e3) cy_X6_plain vy_X6_plain ml_X6_310 (cl_lt ht0 (by decide)) (cl_e6 ht0) rfl rfl (As := [.int (M (t0 + 2) 2)]) rfl hl.1 rfl ⟨⟨Nat.le_of_ble_eq_true rfl, Nat.le_of_ble_eq_true rfl⟩, Nat.le_of_ble_eq_true rfl, Nat.le_of_ble_eq_true rfl, Nat.le_of_ble_eq_true rfl⟩ dX6_woodenLeft_7 (fun H locs hw => ?_)
  obtain ⟨rfl, rfl⟩ := cl_pair hf
  exact cr_reti C hw dX6_woodenLeft_10
set_option maxRecDepth 100000 in
theorem c_X6_woodenLeft {l : Launch} {dd : cl_D} {b : Nat} (hlt : l.stackTraces = false) {M : cl_M} {t0 : Nat}  {r : Int32} {M' : cl_M} (ht0 : cl_sh dd t0 = 6) (h : f_X6_woodenLeft M t0 = some (r, M')) : cl_Mi l dd b yX6_woodenLeft cX6_woodenLeft 1 (some .int) 1 21 [.ref (b + t0)] M r M' :=
  cl_of hlt (by decide) (Nat.le_of_ble_eq_true rfl) (fun p e s m below meth c ls C hw hl => k_X6_woodenLeft C M t0 r M' h _ _ _ ht0 hw (lv_sub hl [0] rfl))
theorem cy_X6_woodenLeft : cl_cy yX6_woodenLeft cX6_woodenLeft 1 (some .int) 0 := ⟨in_ClothesLineModel, cd_X6_woodenLeft, by decide +kernel, by decide +kernel, by decide +kernel⟩
theorem vy_X6_woodenLeft : cl_vy yX6_woodenLeft := ⟨im_X6_woodenLeft, se_X6_woodenLeft⟩
def f_X6_steelLeft (M : cl_M) (t0 : Nat) : Option (Int32 × cl_M) := cl_b2 (f_X6_plain M t0 (M (t0 + 2) 3)) (fun v1 M2 => some (v1, M2))
set_option maxHeartbeats 4000000 in
set_option maxRecDepth 100000 in
theorem k_X6_steelLeft {p : Program} {l : Launch} {e : Env} {s : State} {m : MethodId} {args : Array Value} {below : List Frame} {meth : Method} {c : Code} {dd : cl_D} {b : Nat} (C : cl_C p l s m args meth c cX6_steelLeft RX6 1 (some .int) dd b) : ∀ (M : cl_M) (t0 : Nat) (r : Int32) (M' : cl_M), f_X6_steelLeft M t0 = some (r, M') → ∀ (H : Heap) (locs : List Loc) (ls : Array Slot), cl_sh dd t0 = 6 → cl_H dd b M s H locs → lv_has ls 1 [(0, .ref (b + t0))] → W p l e { frames := 1, cells := 0, slots := 0, locals := 21 } s m args below meth c H locs 0 0 (cl_Zi below args s dd b r M') (F0 m 0 ls []) := by
  have hx := C.1
  have hb := C.2.1
  have hlt := C.2.2.2.2.2.2.2.2.2.2
  have hRr := C.2.2.2.2.2.2.2.2.2.1
  intro M t0 r M' hf H locs ls ht0 hw hl
  unfold f_X6_steelLeft at hf
  refine lv_aload_n hx hb dX6_steelLeft_0 rfl (lv_at hl 0 rfl) ?_
  refine lv_aload_n hx hb dX6_steelLeft_1 rfl (lv_at hl 0 rfl) ?_
  refine fg_X6_17 C hw ht0 dX6_steelLeft_2 ?_
  refine lv_iconst (v := 3) hx hb dX6_steelLeft_5 (by decide) ?_
  refine cr_iald C hw (sh_6_5 ht0).1 (sh_6_5 ht0).2 (by decide) (k := 3) rfl dX6_steelLeft_6 ?_
  obtain ⟨v1, M2, e3, hf⟩ := cl_b2_e hf
  refine cr_Vi C hw (c_X6_plain hlt ht0 e3) cy_X6_plain vy_X6_plain ml_X6_310 (cl_lt ht0 (by decide)) (cl_e6 ht0) rfl rfl (As := [.int (M (t0 + 2) 3)]) rfl hl.1 rfl ⟨⟨Nat.le_of_ble_eq_true rfl, Nat.le_of_ble_eq_true rfl⟩, Nat.le_of_ble_eq_true rfl, Nat.le_of_ble_eq_true rfl, Nat.le_of_ble_eq_true rfl⟩ dX6_steelLeft_7 (fun H locs hw => ?_)
  obtain ⟨rfl, rfl⟩ := cl_pair hf
  exact cr_reti C hw dX6_steelLeft_10
set_option maxRecDepth 100000 in
theorem c_X6_steelLeft {l : Launch} {dd : cl_D} {b : Nat} (hlt : l.stackTraces = false) {M : cl_M} {t0 : Nat}  {r : Int32} {M' : cl_M} (ht0 : cl_sh dd t0 = 6) (h : f_X6_steelLeft M t0 = some (r, M')) : cl_Mi l dd b yX6_steelLeft cX6_steelLeft 1 (some .int) 1 21 [.ref (b + t0)] M r M' :=
  cl_of hlt (by decide) (Nat.le_of_ble_eq_true rfl) (fun p e s m below meth c ls C hw hl => k_X6_steelLeft C M t0 r M' h _ _ _ ht0 hw (lv_sub hl [0] rfl))
theorem cy_X6_steelLeft : cl_cy yX6_steelLeft cX6_steelLeft 1 (some .int) 0 := ⟨in_ClothesLineModel, cd_X6_steelLeft, by decide +kernel, by decide +kernel, by decide +kernel⟩
theorem vy_X6_steelLeft : cl_vy yX6_steelLeft := ⟨im_X6_steelLeft, se_X6_steelLeft⟩
def f_X6_free (M : cl_M) (t0 : Nat) : Option (Int32) := (f_X6_taken M t0 (-1)).bind (fun v1 => some (16777215 &&& (v1 ^^^ (-1))))
set_option maxHeartbeats 4000000 in
set_option maxRecDepth 100000 in
theorem k_X6_free {p : Program} {l : Launch} {e : Env} {s : State} {m : MethodId} {args : Array Value} {below : List Frame} {meth : Method} {c : Code} {dd : cl_D} {b : Nat} (C : cl_C p l s m args meth c cX6_free RX6 1 (some .int) dd b) : ∀ (M : cl_M) (t0 : Nat) (r : Int32), f_X6_free M t0 = some r → ∀ (H : Heap) (locs : List Loc) (ls : Array Slot), cl_sh dd t0 = 6 → cl_H dd b M s H locs → lv_has ls 1 [(0, .ref (b + t0))] → W p l e { frames := 4, cells := 0, slots := 0, locals := 88 } s m args below meth c H locs 0 0 (cl_Zi below args s dd b r M) (F0 m 0 ls []) := by
  have hx := C.1
  have hb := C.2.1
  have hlt := C.2.2.2.2.2.2.2.2.2.2
  have hRr := C.2.2.2.2.2.2.2.2.2.1
  intro M t0 r hf H locs ls ht0 hw hl
  unfold f_X6_free at hf
  refine lv_ldc (v := 16777215) hx hb C.2.2.2.1 (C.2.2.2.2.1 _ kl_X6_71) dX6_free_0 ?_
  refine lv_aload_n hx hb dX6_free_2 rfl (lv_at hl 0 rfl) ?_
  refine lv_iconst (v := (-1)) hx hb dX6_free_3 (by decide) ?_
  obtain ⟨v1, e2, hf⟩ := cl_bind_e hf
  refine cr_Vi C hw (c_X6_taken hlt ht0 e2) cy_X6_taken vy_X6_taken ml_X6_100 (cl_lt ht0 (by decide)) (cl_e6 ht0) rfl rfl (As := [.int (-1)]) rfl hl.1 rfl ⟨⟨Nat.le_of_ble_eq_true rfl, Nat.le_of_ble_eq_true rfl⟩, Nat.le_of_ble_eq_true rfl, Nat.le_of_ble_eq_true rfl, Nat.le_of_ble_eq_true rfl⟩ dX6_free_4 (fun H locs hw => ?_)
  refine lv_iconst (v := (-1)) hx hb dX6_free_7 (by decide) ?_
  refine lv_ixor hx hb dX6_free_8 ?_
  refine lv_iand hx hb dX6_free_9 ?_
  obtain rfl := Option.some.inj hf
  exact cr_reti C hw dX6_free_10
set_option maxRecDepth 100000 in
theorem c_X6_free {l : Launch} {dd : cl_D} {b : Nat} (hlt : l.stackTraces = false) {M : cl_M} {t0 : Nat}  {r : Int32} (ht0 : cl_sh dd t0 = 6) (h : f_X6_free M t0 = some r) : cl_Mi l dd b yX6_free cX6_free 1 (some .int) 4 88 [.ref (b + t0)] M r M :=
  cl_of hlt (by decide) (Nat.le_of_ble_eq_true rfl) (fun p e s m below meth c ls C hw hl => k_X6_free C M t0 r h _ _ _ ht0 hw (lv_sub hl [0] rfl))
theorem cy_X6_free : cl_cy yX6_free cX6_free 1 (some .int) 0 := ⟨in_ClothesLineModel, cd_X6_free, by decide +kernel, by decide +kernel, by decide +kernel⟩
theorem vy_X6_free : cl_vy yX6_free := ⟨im_X6_free, se_X6_free⟩
def f_X6_freeSpots (M : cl_M) (t0 : Nat) : Option (Int32 × cl_M) := (f_X6_free M t0).bind (fun v1 => cl_b2 (f_X6_plain M t0 v1) (fun v3 M4 => some (v3, M4)))
set_option maxHeartbeats 4000000 in
set_option maxRecDepth 100000 in
theorem k_X6_freeSpots {p : Program} {l : Launch} {e : Env} {s : State} {m : MethodId} {args : Array Value} {below : List Frame} {meth : Method} {c : Code} {dd : cl_D} {b : Nat} (C : cl_C p l s m args meth c cX6_freeSpots RX6 1 (some .int) dd b) : ∀ (M : cl_M) (t0 : Nat) (r : Int32) (M' : cl_M), f_X6_freeSpots M t0 = some (r, M') → ∀ (H : Heap) (locs : List Loc) (ls : Array Slot), cl_sh dd t0 = 6 → cl_H dd b M s H locs → lv_has ls 1 [(0, .ref (b + t0))] → W p l e { frames := 5, cells := 0, slots := 0, locals := 108 } s m args below meth c H locs 0 0 (cl_Zi below args s dd b r M') (F0 m 0 ls []) := by
  have hx := C.1
  have hb := C.2.1
  have hlt := C.2.2.2.2.2.2.2.2.2.2
  have hRr := C.2.2.2.2.2.2.2.2.2.1
  intro M t0 r M' hf H locs ls ht0 hw hl
  unfold f_X6_freeSpots at hf
  refine lv_aload_n hx hb dX6_freeSpots_0 rfl (lv_at hl 0 rfl) ?_
  refine lv_aload_n hx hb dX6_freeSpots_1 rfl (lv_at hl 0 rfl) ?_
  obtain ⟨v1, e2, hf⟩ := cl_bind_e hf
  refine cr_Vi C hw (c_X6_free hlt ht0 e2) cy_X6_free vy_X6_free ml_X6_320 (cl_lt ht0 (by decide)) (cl_e6 ht0) rfl rfl (As := []) rfl hl.1 rfl ⟨⟨Nat.le_of_ble_eq_true rfl, Nat.le_of_ble_eq_true rfl⟩, Nat.le_of_ble_eq_true rfl, Nat.le_of_ble_eq_true rfl, Nat.le_of_ble_eq_true rfl⟩ dX6_freeSpots_2 (fun H locs hw => ?_)
  obtain ⟨v3, M4, e5, hf⟩ := cl_b2_e hf
  refine cr_Vi C hw (c_X6_plain hlt ht0 e5) cy_X6_plain vy_X6_plain ml_X6_310 (cl_lt ht0 (by decide)) (cl_e6 ht0) rfl rfl (As := [.int v1]) rfl hl.1 rfl ⟨⟨Nat.le_of_ble_eq_true rfl, Nat.le_of_ble_eq_true rfl⟩, Nat.le_of_ble_eq_true rfl, Nat.le_of_ble_eq_true rfl, Nat.le_of_ble_eq_true rfl⟩ dX6_freeSpots_5 (fun H locs hw => ?_)
  obtain ⟨rfl, rfl⟩ := cl_pair hf
  exact cr_reti C hw dX6_freeSpots_8
set_option maxRecDepth 100000 in
theorem c_X6_freeSpots {l : Launch} {dd : cl_D} {b : Nat} (hlt : l.stackTraces = false) {M : cl_M} {t0 : Nat}  {r : Int32} {M' : cl_M} (ht0 : cl_sh dd t0 = 6) (h : f_X6_freeSpots M t0 = some (r, M')) : cl_Mi l dd b yX6_freeSpots cX6_freeSpots 1 (some .int) 5 108 [.ref (b + t0)] M r M' :=
  cl_of hlt (by decide) (Nat.le_of_ble_eq_true rfl) (fun p e s m below meth c ls C hw hl => k_X6_freeSpots C M t0 r M' h _ _ _ ht0 hw (lv_sub hl [0] rfl))
theorem cy_X6_freeSpots : cl_cy yX6_freeSpots cX6_freeSpots 1 (some .int) 0 := ⟨in_ClothesLineModel, cd_X6_freeSpots, by decide +kernel, by decide +kernel, by decide +kernel⟩
theorem vy_X6_freeSpots : cl_vy yX6_freeSpots := ⟨im_X6_freeSpots, se_X6_freeSpots⟩
def f_X6_longestGap_40 (r17 : cl_M → Int32 → Int32 → Int32 → Int32 → Option (Int32 × cl_M)) (M : cl_M) (a1 : Int32) (a2 : Int32) (a4 : Int32) (z0 : Int32) : Option (Int32 × cl_M) := cl_let (if a2 < z0 then z0 else a2) (fun v8 => cl_let (a4 + 1) (fun v9 => r17 M a1 v8 z0 v9))
set_option maxHeartbeats 4000000 in
set_option maxRecDepth 100000 in
theorem k_X6_longestGap_40 {p : Program} {l : Launch} {e : Env} {s : State} {m : MethodId} {args : Array Value} {below : List Frame} {meth : Method} {c : Code} {dd : cl_D} {b : Nat} (C : cl_C p l s m args meth c cX6_longestGap RX6 5 (some .int) dd b) {r17 : cl_M → Int32 → Int32 → Int32 → Int32 → Option (Int32 × cl_M)} (hr17 : ∀ (M : cl_M) (a1 : Int32) (a2 : Int32) (a3 : Int32) (a4 : Int32) (r : Int32) (M' : cl_M), r17 M a1 a2 a3 a4 = some (r, M') → ∀ (H : Heap) (locs : List Loc) (ls : Array Slot), cl_H dd b M s H locs → lv_has ls 5 [(1, .int a1), (2, .int a2), (3, .int a3), (4, .int a4)] → W p l e { frames := 5, cells := 0, slots := 0, locals := 108 } s m args below meth c H locs 0 0 (cl_Zi below args s dd b r M') (F0 m 17 ls [])) : ∀ (M : cl_M) (a1 : Int32) (a2 : Int32) (a4 : Int32) (z0 : Int32) (r : Int32) (M' : cl_M), f_X6_longestGap_40 r17 M a1 a2 a4 z0 = some (r, M') → ∀ (H : Heap) (locs : List Loc) (ls : Array Slot), cl_H dd b M s H locs → lv_has ls 5 [(1, .int a1), (2, .int a2), (4, .int a4)] → W p l e { frames := 5, cells := 0, slots := 0, locals := 108 } s m args below meth c H locs 0 0 (cl_Zi below args s dd b r M') (F0 m 40 ls [.int z0]) := by
  have hx := C.1
  have hb := C.2.1
  have hlt := C.2.2.2.2.2.2.2.2.2.2
  have hRr := C.2.2.2.2.2.2.2.2.2.1
  intro M a1 a2 a4 z0 r M' hf H locs ls hw hl
  unfold f_X6_longestGap_40 at hf
  refine lv_istore_n (lv' := [(3, .int z0), (1, .int a1), (2, .int a2), (4, .int a4)]) hx hb dX6_longestGap_40 rfl hl (by decide) rfl (fun ls hl => ?_)
  refine lv_iload_n hx hb dX6_longestGap_41 rfl (lv_at hl 2 rfl) ?_
  refine lv_iload_n hx hb dX6_longestGap_42 rfl (lv_at hl 0 rfl) ?_
  refine cr_max C ml_X6_126 st_math_max in_math cd_math_max hl.1 ⟨Nat.le_of_ble_eq_true rfl, Nat.le_of_ble_eq_true rfl, Nat.le_of_ble_eq_true rfl, Nat.le_of_ble_eq_true rfl⟩ dX6_longestGap_43 ?_
  obtain ⟨v8, ev8, hf⟩ := cl_let_e hf
  refine cr_top ev8 ?_
  refine lv_istore_n (lv' := [(2, .int v8), (3, .int z0), (1, .int a1), (4, .int a4)]) hx hb dX6_longestGap_46 rfl hl (by decide) rfl (fun ls hl => ?_)
  obtain ⟨v9, ev9, hf⟩ := cl_let_e hf
  refine lv_iinc (v := v9) (lv' := [(4, .int v9), (2, .int v8), (3, .int z0), (1, .int a1)]) hx hb dX6_longestGap_47 hl (k := 3) rfl (by rw [ev9]; rfl) (by decide) rfl (fun ls hl => ?_)
  refine lv_goto (tgt := 17) hx hb dX6_longestGap_50 (by decide) ?_
  exact hr17 M a1 v8 z0 v9 _ _ hf _ _ _ hw (lv_sub hl [3, 1, 2, 0] rfl)
def f_X6_longestGap_17 : Nat → cl_M → Int32 → Int32 → Int32 → Int32 → Option (Int32 × cl_M)
  | 0, _, _, _, _, _ => none
  | k + 1, M, a1, a2, a3, a4 => if 24 ≤ a4 then some (a2, M) else (f_X6_has M a1 a4).bind (fun v5 => if v5 = 0 then f_X6_longestGap_40 (f_X6_longestGap_17 k) M a1 a2 a4 0 else f_X6_longestGap_40 (f_X6_longestGap_17 k) M a1 a2 a4 (a3 + 1))
set_option maxHeartbeats 4000000 in
set_option maxRecDepth 100000 in
theorem k_X6_longestGap_17 {p : Program} {l : Launch} {e : Env} {s : State} {m : MethodId} {args : Array Value} {below : List Frame} {meth : Method} {c : Code} {dd : cl_D} {b : Nat} (C : cl_C p l s m args meth c cX6_longestGap RX6 5 (some .int) dd b) : ∀ (k : Nat), ∀ (M : cl_M) (a1 : Int32) (a2 : Int32) (a3 : Int32) (a4 : Int32) (r : Int32) (M' : cl_M), f_X6_longestGap_17 k M a1 a2 a3 a4 = some (r, M') → ∀ (H : Heap) (locs : List Loc) (ls : Array Slot), cl_H dd b M s H locs → lv_has ls 5 [(1, .int a1), (2, .int a2), (3, .int a3), (4, .int a4)] → W p l e { frames := 5, cells := 0, slots := 0, locals := 108 } s m args below meth c H locs 0 0 (cl_Zi below args s dd b r M') (F0 m 17 ls []) := by
  have hx := C.1
  have hb := C.2.1
  have hlt := C.2.2.2.2.2.2.2.2.2.2
  have hRr := C.2.2.2.2.2.2.2.2.2.1
  intro k
  induction k with
  | zero =>
    intro M a1 a2 a3 a4 r M' hf H locs ls hw hl
    rw [f_X6_longestGap_17] at hf
    cases hf
  | succ k ih =>
    intro M a1 a2 a3 a4 r M' hf H locs ls hw hl
    rw [f_X6_longestGap_17] at hf
    refine lv_iload hx hb dX6_longestGap_17 (lv_at hl 3 rfl) ?_
    refine lv_bipush (v := 24) hx hb dX6_longestGap_19 (by decide) ?_
    refine lv_icmp_ge (tgt := 53) hx hb dX6_longestGap_21 (by decide) (fun c4 => ?_) (fun c4 => ?_)
    · have hf := cl_yes c4 hf
      refine lv_iload_n hx hb dX6_longestGap_53 rfl (lv_at hl 1 rfl) ?_
      obtain ⟨rfl, rfl⟩ := cl_pair hf
      exact cr_reti C hw dX6_longestGap_54
    · have hf := cl_no c4 hf
      refine lv_iload_n hx hb dX6_longestGap_24 rfl (lv_at hl 0 rfl) ?_
      refine lv_iload hx hb dX6_longestGap_25 (lv_at hl 3 rfl) ?_
      obtain ⟨v5, e6, hf⟩ := cl_bind_e hf
      refine cr_Si C hw (c_X6_has hlt e6) cy_X6_has st_X6_has ml_X6_323 (As := [.int a1, .int a4]) rfl hl.1 rfl ⟨⟨Nat.le_of_ble_eq_true rfl, Nat.le_of_ble_eq_true rfl⟩, Nat.le_of_ble_eq_true rfl, Nat.le_of_ble_eq_true rfl, Nat.le_of_ble_eq_true rfl⟩ dX6_longestGap_27 (fun H locs hw => ?_)
      refine lv_if_eq (tgt := 39) hx hb dX6_longestGap_30 (by decide) (fun c7 => ?_) (fun c7 => ?_)
      · have hf := cl_yes c7 hf
        refine lv_iconst (v := 0) hx hb dX6_longestGap_39 (by decide) ?_
        exact k_X6_longestGap_40 C ih M a1 a2 a4 0 _ _ hf _ _ _ hw (lv_sub hl [0, 1, 3] rfl)
      · have hf := cl_no c7 hf
        refine lv_iload_n hx hb dX6_longestGap_33 rfl (lv_at hl 2 rfl) ?_
        refine lv_iconst (v := 1) hx hb dX6_longestGap_34 (by decide) ?_
        refine lv_iadd hx hb dX6_longestGap_35 ?_
        refine lv_goto (tgt := 40) hx hb dX6_longestGap_36 (by decide) ?_
        exact k_X6_longestGap_40 C ih M a1 a2 a4 (a3 + 1) _ _ hf _ _ _ hw (lv_sub hl [0, 1, 3] rfl)
def f_X6_longestGap (M : cl_M) (t0 : Nat) : Option (Int32 × cl_M) := cl_let (cl_ms M t0 4 0) (fun M1 => (f_X6_free M1 t0).bind (fun v2 => f_X6_longestGap_17 cl_F M1 v2 0 0 0))
set_option maxHeartbeats 4000000 in
set_option maxRecDepth 100000 in
theorem k_X6_longestGap {p : Program} {l : Launch} {e : Env} {s : State} {m : MethodId} {args : Array Value} {below : List Frame} {meth : Method} {c : Code} {dd : cl_D} {b : Nat} (C : cl_C p l s m args meth c cX6_longestGap RX6 5 (some .int) dd b) : ∀ (M : cl_M) (t0 : Nat) (r : Int32) (M' : cl_M), f_X6_longestGap M t0 = some (r, M') → ∀ (H : Heap) (locs : List Loc) (ls : Array Slot), cl_sh dd t0 = 6 → cl_H dd b M s H locs → lv_has ls 5 [(0, .ref (b + t0))] → W p l e { frames := 5, cells := 0, slots := 0, locals := 108 } s m args below meth c H locs 0 0 (cl_Zi below args s dd b r M') (F0 m 0 ls []) := by
  have hx := C.1
  have hb := C.2.1
  have hlt := C.2.2.2.2.2.2.2.2.2.2
  have hRr := C.2.2.2.2.2.2.2.2.2.1
  intro M t0 r M' hf H locs ls ht0 hw hl
  unfold f_X6_longestGap at hf
  refine lv_aload_n hx hb dX6_longestGap_0 rfl (lv_at hl 0 rfl) ?_
  refine lv_iconst (v := 0) hx hb dX6_longestGap_1 (by decide) ?_
  obtain ⟨M1, eM1, hf⟩ := cl_let_e hf
  refine fp_X6_60 C hw ht0 eM1 dX6_longestGap_2 (fun H locs hw => ?_)
  refine lv_aload_n hx hb dX6_longestGap_5 rfl (lv_at hl 0 rfl) ?_
  obtain ⟨v2, e3, hf⟩ := cl_bind_e hf
  refine cr_Vi C hw (c_X6_free hlt ht0 e3) cy_X6_free vy_X6_free ml_X6_320 (cl_lt ht0 (by decide)) (cl_e6 ht0) rfl rfl (As := []) rfl hl.1 rfl ⟨⟨Nat.le_of_ble_eq_true rfl, Nat.le_of_ble_eq_true rfl⟩, Nat.le_of_ble_eq_true rfl, Nat.le_of_ble_eq_true rfl, Nat.le_of_ble_eq_true rfl⟩ dX6_longestGap_6 (fun H locs hw => ?_)
  refine lv_istore_n (lv' := [(1, .int v2), (0, .ref (b + t0))]) hx hb dX6_longestGap_9 rfl hl (by decide) rfl (fun ls hl => ?_)
  refine lv_iconst (v := 0) hx hb dX6_longestGap_10 (by decide) ?_
  refine lv_istore_n (lv' := [(2, .int 0), (1, .int v2), (0, .ref (b + t0))]) hx hb dX6_longestGap_11 rfl hl (by decide) rfl (fun ls hl => ?_)
  refine lv_iconst (v := 0) hx hb dX6_longestGap_12 (by decide) ?_
  refine lv_istore_n (lv' := [(3, .int 0), (2, .int 0), (1, .int v2), (0, .ref (b + t0))]) hx hb dX6_longestGap_13 rfl hl (by decide) rfl (fun ls hl => ?_)
  refine lv_iconst (v := 0) hx hb dX6_longestGap_14 (by decide) ?_
  refine lv_istore (lv' := [(4, .int 0), (3, .int 0), (2, .int 0), (1, .int v2), (0, .ref (b + t0))]) hx hb dX6_longestGap_15 hl (by decide) rfl (fun ls hl => ?_)
  exact k_X6_longestGap_17 C cl_F M1 v2 0 0 0 _ _ hf _ _ _ hw (lv_sub hl [3, 2, 1, 0] rfl)
set_option maxRecDepth 100000 in
theorem c_X6_longestGap {l : Launch} {dd : cl_D} {b : Nat} (hlt : l.stackTraces = false) {M : cl_M} {t0 : Nat}  {r : Int32} {M' : cl_M} (ht0 : cl_sh dd t0 = 6) (h : f_X6_longestGap M t0 = some (r, M')) : cl_Mi l dd b yX6_longestGap cX6_longestGap 5 (some .int) 5 108 [.ref (b + t0)] M r M' :=
  cl_of hlt (by decide) (Nat.le_of_ble_eq_true rfl) (fun p e s m below meth c ls C hw hl => k_X6_longestGap C M t0 r M' h _ _ _ ht0 hw (lv_sub hl [0] rfl))
theorem cy_X6_longestGap : cl_cy yX6_longestGap cX6_longestGap 5 (some .int) 0 := ⟨in_ClothesLineModel, cd_X6_longestGap, by decide +kernel, by decide +kernel, by decide +kernel⟩
theorem vy_X6_longestGap : cl_vy yX6_longestGap := ⟨im_X6_longestGap, se_X6_longestGap⟩
def f_X6_onSpot_2 : Nat → cl_M → Nat → Int32 → Int32 → Option (Int32)
  | 0, _, _, _, _ => none
  | k + 1, M, t0, a1, a2 => if (M (t0 + 2) 7) ≤ a2 then some (-1) else (f_X6_spotsOf M t0 a2).bind (fun v2 => (f_X6_has M v2 a1).bind (fun v4 => if v4 = 0 then cl_let (a2 + 1) (fun v7 => f_X6_onSpot_2 k M t0 a1 v7) else some a2))
set_option maxHeartbeats 4000000 in
set_option maxRecDepth 100000 in
theorem k_X6_onSpot_2 {p : Program} {l : Launch} {e : Env} {s : State} {m : MethodId} {args : Array Value} {below : List Frame} {meth : Method} {c : Code} {dd : cl_D} {b : Nat} (C : cl_C p l s m args meth c cX6_onSpot RX6 3 (some .int) dd b) : ∀ (k : Nat), ∀ (M : cl_M) (t0 : Nat) (a1 : Int32) (a2 : Int32) (r : Int32), f_X6_onSpot_2 k M t0 a1 a2 = some r → ∀ (H : Heap) (locs : List Loc) (ls : Array Slot), cl_sh dd t0 = 6 → cl_H dd b M s H locs → lv_has ls 3 [(0, .ref (b + t0)), (1, .int a1), (2, .int a2)] → W p l e { frames := 3, cells := 0, slots := 0, locals := 65 } s m args below meth c H locs 0 0 (cl_Zi below args s dd b r M) (F0 m 2 ls []) := by
  have hx := C.1
  have hb := C.2.1
  have hlt := C.2.2.2.2.2.2.2.2.2.2
  have hRr := C.2.2.2.2.2.2.2.2.2.1
  intro k
  induction k with
  | zero =>
    intro M t0 a1 a2 r hf H locs ls ht0 hw hl
    rw [f_X6_onSpot_2] at hf
    cases hf
  | succ k ih =>
    intro M t0 a1 a2 r hf H locs ls ht0 hw hl
    rw [f_X6_onSpot_2] at hf
    refine lv_iload_n hx hb dX6_onSpot_2 rfl (lv_at hl 2 rfl) ?_
    refine lv_aload_n hx hb dX6_onSpot_3 rfl (lv_at hl 0 rfl) ?_
    refine fg_X6_17 C hw ht0 dX6_onSpot_4 ?_
    refine lv_bipush (v := 7) hx hb dX6_onSpot_7 (by decide) ?_
    refine cr_iald C hw (sh_6_5 ht0).1 (sh_6_5 ht0).2 (by decide) (k := 7) rfl dX6_onSpot_9 ?_
    refine lv_icmp_ge (tgt := 33) hx hb dX6_onSpot_10 (by decide) (fun c1 => ?_) (fun c1 => ?_)
    · have hf := cl_yes c1 hf
      refine lv_iconst (v := (-1)) hx hb dX6_onSpot_33 (by decide) ?_
      obtain rfl := Option.some.inj hf
      exact cr_reti C hw dX6_onSpot_34
    · have hf := cl_no c1 hf
      refine lv_aload_n hx hb dX6_onSpot_13 rfl (lv_at hl 0 rfl) ?_
      refine lv_iload_n hx hb dX6_onSpot_14 rfl (lv_at hl 2 rfl) ?_
      obtain ⟨v2, e3, hf⟩ := cl_bind_e hf
      refine cr_Vi C hw (c_X6_spotsOf hlt ht0 e3) cy_X6_spotsOf vy_X6_spotsOf ml_X6_91 (cl_lt ht0 (by decide)) (cl_e6 ht0) rfl rfl (As := [.int a2]) rfl hl.1 rfl ⟨⟨Nat.le_of_ble_eq_true rfl, Nat.le_of_ble_eq_true rfl⟩, Nat.le_of_ble_eq_true rfl, Nat.le_of_ble_eq_true rfl, Nat.le_of_ble_eq_true rfl⟩ dX6_onSpot_15 (fun H locs hw => ?_)
      refine lv_iload_n hx hb dX6_onSpot_18 rfl (lv_at hl 1 rfl) ?_
      obtain ⟨v4, e5, hf⟩ := cl_bind_e hf
      refine cr_Si C hw (c_X6_has hlt e5) cy_X6_has st_X6_has ml_X6_323 (As := [.int v2, .int a1]) rfl hl.1 rfl ⟨⟨Nat.le_of_ble_eq_true rfl, Nat.le_of_ble_eq_true rfl⟩, Nat.le_of_ble_eq_true rfl, Nat.le_of_ble_eq_true rfl, Nat.le_of_ble_eq_true rfl⟩ dX6_onSpot_19 (fun H locs hw => ?_)
      refine lv_if_eq (tgt := 27) hx hb dX6_onSpot_22 (by decide) (fun c6 => ?_) (fun c6 => ?_)
      · have hf := cl_yes c6 hf
        obtain ⟨v7, ev7, hf⟩ := cl_let_e hf
        refine lv_iinc (v := v7) (lv' := [(2, .int v7), (0, .ref (b + t0)), (1, .int a1)]) hx hb dX6_onSpot_27 hl (k := 2) rfl (by rw [ev7]; rfl) (by decide) rfl (fun ls hl => ?_)
        refine lv_goto (tgt := 2) hx hb dX6_onSpot_30 (by decide) ?_
        exact ih M t0 a1 v7 _ hf _ _ _ ht0 hw (lv_sub hl [1, 2, 0] rfl)
      · have hf := cl_no c6 hf
        refine lv_iload_n hx hb dX6_onSpot_25 rfl (lv_at hl 2 rfl) ?_
        obtain rfl := Option.some.inj hf
        exact cr_reti C hw dX6_onSpot_26
def f_X6_onSpot (M : cl_M) (t0 : Nat) (a1 : Int32) : Option (Int32) := f_X6_onSpot_2 cl_F M t0 a1 0
set_option maxHeartbeats 4000000 in
set_option maxRecDepth 100000 in
theorem k_X6_onSpot {p : Program} {l : Launch} {e : Env} {s : State} {m : MethodId} {args : Array Value} {below : List Frame} {meth : Method} {c : Code} {dd : cl_D} {b : Nat} (C : cl_C p l s m args meth c cX6_onSpot RX6 3 (some .int) dd b) : ∀ (M : cl_M) (t0 : Nat) (a1 : Int32) (r : Int32), f_X6_onSpot M t0 a1 = some r → ∀ (H : Heap) (locs : List Loc) (ls : Array Slot), cl_sh dd t0 = 6 → cl_H dd b M s H locs → lv_has ls 3 [(0, .ref (b + t0)), (1, .int a1)] → W p l e { frames := 3, cells := 0, slots := 0, locals := 65 } s m args below meth c H locs 0 0 (cl_Zi below args s dd b r M) (F0 m 0 ls []) := by
  have hx := C.1
  have hb := C.2.1
  have hlt := C.2.2.2.2.2.2.2.2.2.2
  have hRr := C.2.2.2.2.2.2.2.2.2.1
  intro M t0 a1 r hf H locs ls ht0 hw hl
  unfold f_X6_onSpot at hf
  refine lv_iconst (v := 0) hx hb dX6_onSpot_0 (by decide) ?_
  refine lv_istore_n (lv' := [(2, .int 0), (0, .ref (b + t0)), (1, .int a1)]) hx hb dX6_onSpot_1 rfl hl (by decide) rfl (fun ls hl => ?_)
  exact k_X6_onSpot_2 C cl_F M t0 a1 0 _ hf _ _ _ ht0 hw (lv_sub hl [1, 2, 0] rfl)
set_option maxRecDepth 100000 in
theorem c_X6_onSpot {l : Launch} {dd : cl_D} {b : Nat} (hlt : l.stackTraces = false) {M : cl_M} {t0 : Nat} {a1 : Int32}  {r : Int32} (ht0 : cl_sh dd t0 = 6) (h : f_X6_onSpot M t0 a1 = some r) : cl_Mi l dd b yX6_onSpot cX6_onSpot 3 (some .int) 3 65 [.ref (b + t0), .int a1] M r M :=
  cl_of hlt (by decide) (Nat.le_of_ble_eq_true rfl) (fun p e s m below meth c ls C hw hl => k_X6_onSpot C M t0 a1 r h _ _ _ ht0 hw (lv_sub hl [0, 1] rfl))
theorem cy_X6_onSpot : cl_cy yX6_onSpot cX6_onSpot 3 (some .int) 1 := ⟨in_ClothesLineModel, cd_X6_onSpot, by decide +kernel, by decide +kernel, by decide +kernel⟩
theorem vy_X6_onSpot : cl_vy yX6_onSpot := ⟨im_X6_onSpot, se_X6_onSpot⟩
def f_X6_isSpot_20 (M : cl_M) (z0 : Int32) : Option (Int32 × cl_M) := if cl_bz z0 = true then some (z0, M) else none
set_option maxHeartbeats 4000000 in
set_option maxRecDepth 100000 in
theorem k_X6_isSpot_20 {p : Program} {l : Launch} {e : Env} {s : State} {m : MethodId} {args : Array Value} {below : List Frame} {meth : Method} {c : Code} {dd : cl_D} {b : Nat} (C : cl_C p l s m args meth c cX6_isSpot RX6 3 (some .boolean) dd b) : ∀ (M : cl_M) (z0 : Int32) (r : Int32) (M' : cl_M), f_X6_isSpot_20 M z0 = some (r, M') → ∀ (H : Heap) (locs : List Loc) (ls : Array Slot), cl_H dd b M s H locs → lv_has ls 3 [] → W p l e { frames := 1, cells := 0, slots := 0, locals := 22 } s m args below meth c H locs 0 0 (cl_Zi below args s dd b r M') (F0 m 20 ls [.int z0]) := by
  have hx := C.1
  have hb := C.2.1
  have hlt := C.2.2.2.2.2.2.2.2.2.2
  have hRr := C.2.2.2.2.2.2.2.2.2.1
  intro M z0 r M' hf H locs ls hw hl
  unfold f_X6_isSpot_20 at hf
  obtain ⟨q7, hf⟩ := cl_grd hf
  obtain ⟨rfl, rfl⟩ := cl_pair hf
  exact cr_retz C hw q7 dX6_isSpot_20
def f_X6_isSpot (M : cl_M) (t0 : Nat) (a1 : Int32) (a2 : Int32) : Option (Int32 × cl_M) := (f_X6_inRange M a1 0 23).bind (fun v1 => cl_b2 (f_X6_fails M t0 v1 a2) (fun v3 M4 => if v3 = 0 then f_X6_isSpot_20 M4 1 else f_X6_isSpot_20 M4 0))
set_option maxHeartbeats 4000000 in
set_option maxRecDepth 100000 in
theorem k_X6_isSpot {p : Program} {l : Launch} {e : Env} {s : State} {m : MethodId} {args : Array Value} {below : List Frame} {meth : Method} {c : Code} {dd : cl_D} {b : Nat} (C : cl_C p l s m args meth c cX6_isSpot RX6 3 (some .boolean) dd b) : ∀ (M : cl_M) (t0 : Nat) (a1 : Int32) (a2 : Int32) (r : Int32) (M' : cl_M), f_X6_isSpot M t0 a1 a2 = some (r, M') → ∀ (H : Heap) (locs : List Loc) (ls : Array Slot), cl_sh dd t0 = 6 → cl_H dd b M s H locs → lv_has ls 3 [(0, .ref (b + t0)), (1, .int a1), (2, .int a2)] → W p l e { frames := 1, cells := 0, slots := 0, locals := 22 } s m args below meth c H locs 0 0 (cl_Zi below args s dd b r M') (F0 m 0 ls []) := by
  have hx := C.1
  have hb := C.2.1
  have hlt := C.2.2.2.2.2.2.2.2.2.2
  have hRr := C.2.2.2.2.2.2.2.2.2.1
  intro M t0 a1 a2 r M' hf H locs ls ht0 hw hl
  unfold f_X6_isSpot at hf
  refine lv_aload_n hx hb dX6_isSpot_0 rfl (lv_at hl 0 rfl) ?_
  refine lv_iload_n hx hb dX6_isSpot_1 rfl (lv_at hl 1 rfl) ?_
  refine lv_iconst (v := 0) hx hb dX6_isSpot_2 (by decide) ?_
  refine lv_bipush (v := 23) hx hb dX6_isSpot_3 (by decide) ?_
  obtain ⟨v1, e2, hf⟩ := cl_bind_e hf
  refine cr_Si C hw (c_X6_inRange hlt e2) cy_X6_inRange st_X6_inRange ml_X6_63 (As := [.int a1, .int 0, .int 23]) rfl hl.1 rfl ⟨⟨Nat.le_of_ble_eq_true rfl, Nat.le_of_ble_eq_true rfl⟩, Nat.le_of_ble_eq_true rfl, Nat.le_of_ble_eq_true rfl, Nat.le_of_ble_eq_true rfl⟩ dX6_isSpot_5 (fun H locs hw => ?_)
  refine lv_iload_n hx hb dX6_isSpot_8 rfl (lv_at hl 2 rfl) ?_
  obtain ⟨v3, M4, e5, hf⟩ := cl_b2_e hf
  refine cr_Vi C hw (c_X6_fails hlt ht0 e5) cy_X6_fails vy_X6_fails ml_X6_313 (cl_lt ht0 (by decide)) (cl_e6 ht0) rfl rfl (As := [.int v1, .int a2]) rfl hl.1 rfl ⟨⟨Nat.le_of_ble_eq_true rfl, Nat.le_of_ble_eq_true rfl⟩, Nat.le_of_ble_eq_true rfl, Nat.le_of_ble_eq_true rfl, Nat.le_of_ble_eq_true rfl⟩ dX6_isSpot_9 (fun H locs hw => ?_)
  refine lv_if_ne (tgt := 19) hx hb dX6_isSpot_12 (by decide) (fun c6 => ?_) (fun c6 => ?_)
  · have hf := cl_no c6 hf
    refine lv_iconst (v := 0) hx hb dX6_isSpot_19 (by decide) ?_
    exact k_X6_isSpot_20 C M4 0 _ _ hf _ _ _ hw (lv_sub hl [] rfl)
  · have hf := cl_yes c6 hf
    refine lv_iconst (v := 1) hx hb dX6_isSpot_15 (by decide) ?_
    refine lv_goto (tgt := 20) hx hb dX6_isSpot_16 (by decide) ?_
    exact k_X6_isSpot_20 C M4 1 _ _ hf _ _ _ hw (lv_sub hl [] rfl)
set_option maxRecDepth 100000 in
theorem c_X6_isSpot {l : Launch} {dd : cl_D} {b : Nat} (hlt : l.stackTraces = false) {M : cl_M} {t0 : Nat} {a1 : Int32} {a2 : Int32}  {r : Int32} {M' : cl_M} (ht0 : cl_sh dd t0 = 6) (h : f_X6_isSpot M t0 a1 a2 = some (r, M')) : cl_Mi l dd b yX6_isSpot cX6_isSpot 3 (some .boolean) 1 22 [.ref (b + t0), .int a1, .int a2] M r M' :=
  cl_of hlt (by decide) (Nat.le_of_ble_eq_true rfl) (fun p e s m below meth c ls C hw hl => k_X6_isSpot C M t0 a1 a2 r M' h _ _ _ ht0 hw (lv_sub hl [0, 1, 2] rfl))
theorem cy_X6_isSpot : cl_cy yX6_isSpot cX6_isSpot 3 (some .boolean) 2 := ⟨in_ClothesLineModel, cd_X6_isSpot, by decide +kernel, by decide +kernel, by decide +kernel⟩
theorem vy_X6_isSpot : cl_vy yX6_isSpot := ⟨im_X6_isSpot, se_X6_isSpot⟩
def f_X6_garmentAt_23 (M : cl_M) (z0 : Int32) : Option (Int32 × cl_M) := some (z0, M)
set_option maxHeartbeats 4000000 in
set_option maxRecDepth 100000 in
theorem k_X6_garmentAt_23 {p : Program} {l : Launch} {e : Env} {s : State} {m : MethodId} {args : Array Value} {below : List Frame} {meth : Method} {c : Code} {dd : cl_D} {b : Nat} (C : cl_C p l s m args meth c cX6_garmentAt RX6 2 (some .int) dd b) : ∀ (M : cl_M) (z0 : Int32) (r : Int32) (M' : cl_M), f_X6_garmentAt_23 M z0 = some (r, M') → ∀ (H : Heap) (locs : List Loc) (ls : Array Slot), cl_H dd b M s H locs → lv_has ls 2 [] → W p l e { frames := 4, cells := 0, slots := 0, locals := 87 } s m args below meth c H locs 0 0 (cl_Zi below args s dd b r M') (F0 m 23 ls [.int z0]) := by
  have hx := C.1
  have hb := C.2.1
  have hlt := C.2.2.2.2.2.2.2.2.2.2
  have hRr := C.2.2.2.2.2.2.2.2.2.1
  intro M z0 r M' hf H locs ls hw hl
  unfold f_X6_garmentAt_23 at hf
  obtain ⟨rfl, rfl⟩ := cl_pair hf
  exact cr_reti C hw dX6_garmentAt_23
def f_X6_garmentAt (M : cl_M) (t0 : Nat) (a1 : Int32) : Option (Int32 × cl_M) := cl_let (cl_ms M t0 4 0) (fun M1 => cl_b2 (f_X6_isSpot M1 t0 a1 1) (fun v2 M3 => if v2 = 0 then f_X6_garmentAt_23 M3 0 else (f_X6_onSpot M3 t0 a1).bind (fun v6 => f_X6_garmentAt_23 M3 v6)))
set_option maxHeartbeats 4000000 in
set_option maxRecDepth 100000 in
theorem k_X6_garmentAt {p : Program} {l : Launch} {e : Env} {s : State} {m : MethodId} {args : Array Value} {below : List Frame} {meth : Method} {c : Code} {dd : cl_D} {b : Nat} (C : cl_C p l s m args meth c cX6_garmentAt RX6 2 (some .int) dd b) : ∀ (M : cl_M) (t0 : Nat) (a1 : Int32) (r : Int32) (M' : cl_M), f_X6_garmentAt M t0 a1 = some (r, M') → ∀ (H : Heap) (locs : List Loc) (ls : Array Slot), cl_sh dd t0 = 6 → cl_H dd b M s H locs → lv_has ls 2 [(0, .ref (b + t0)), (1, .int a1)] → W p l e { frames := 4, cells := 0, slots := 0, locals := 87 } s m args below meth c H locs 0 0 (cl_Zi below args s dd b r M') (F0 m 0 ls []) := by
  have hx := C.1
  have hb := C.2.1
  have hlt := C.2.2.2.2.2.2.2.2.2.2
  have hRr := C.2.2.2.2.2.2.2.2.2.1
  intro M t0 a1 r M' hf H locs ls ht0 hw hl
  unfold f_X6_garmentAt at hf
  refine lv_aload_n hx hb dX6_garmentAt_0 rfl (lv_at hl 0 rfl) ?_
  refine lv_iconst (v := 0) hx hb dX6_garmentAt_1 (by decide) ?_
  obtain ⟨M1, eM1, hf⟩ := cl_let_e hf
  refine fp_X6_60 C hw ht0 eM1 dX6_garmentAt_2 (fun H locs hw => ?_)
  refine lv_aload_n hx hb dX6_garmentAt_5 rfl (lv_at hl 0 rfl) ?_
  refine lv_iload_n hx hb dX6_garmentAt_6 rfl (lv_at hl 1 rfl) ?_
  refine lv_iconst (v := 1) hx hb dX6_garmentAt_7 (by decide) ?_
  obtain ⟨v2, M3, e4, hf⟩ := cl_b2_e hf
  refine cr_Vi C hw (c_X6_isSpot hlt ht0 e4) cy_X6_isSpot vy_X6_isSpot ml_X6_326 (cl_lt ht0 (by decide)) (cl_e6 ht0) rfl rfl (As := [.int a1, .int 1]) rfl hl.1 rfl ⟨⟨Nat.le_of_ble_eq_true rfl, Nat.le_of_ble_eq_true rfl⟩, Nat.le_of_ble_eq_true rfl, Nat.le_of_ble_eq_true rfl, Nat.le_of_ble_eq_true rfl⟩ dX6_garmentAt_8 (fun H locs hw => ?_)
  refine lv_if_eq (tgt := 22) hx hb dX6_garmentAt_11 (by decide) (fun c5 => ?_) (fun c5 => ?_)
  · have hf := cl_yes c5 hf
    refine lv_iconst (v := 0) hx hb dX6_garmentAt_22 (by decide) ?_
    exact k_X6_garmentAt_23 C M3 0 _ _ hf _ _ _ hw (lv_sub hl [] rfl)
  · have hf := cl_no c5 hf
    refine lv_aload_n hx hb dX6_garmentAt_14 rfl (lv_at hl 0 rfl) ?_
    refine lv_iload_n hx hb dX6_garmentAt_15 rfl (lv_at hl 1 rfl) ?_
    obtain ⟨v6, e7, hf⟩ := cl_bind_e hf
    refine cr_Vi C hw (c_X6_onSpot hlt ht0 e7) cy_X6_onSpot vy_X6_onSpot ml_X6_329 (cl_lt ht0 (by decide)) (cl_e6 ht0) rfl rfl (As := [.int a1]) rfl hl.1 rfl ⟨⟨Nat.le_of_ble_eq_true rfl, Nat.le_of_ble_eq_true rfl⟩, Nat.le_of_ble_eq_true rfl, Nat.le_of_ble_eq_true rfl, Nat.le_of_ble_eq_true rfl⟩ dX6_garmentAt_16 (fun H locs hw => ?_)
    refine lv_goto (tgt := 23) hx hb dX6_garmentAt_19 (by decide) ?_
    exact k_X6_garmentAt_23 C M3 v6 _ _ hf _ _ _ hw (lv_sub hl [] rfl)
set_option maxRecDepth 100000 in
theorem c_X6_garmentAt {l : Launch} {dd : cl_D} {b : Nat} (hlt : l.stackTraces = false) {M : cl_M} {t0 : Nat} {a1 : Int32}  {r : Int32} {M' : cl_M} (ht0 : cl_sh dd t0 = 6) (h : f_X6_garmentAt M t0 a1 = some (r, M')) : cl_Mi l dd b yX6_garmentAt cX6_garmentAt 2 (some .int) 4 87 [.ref (b + t0), .int a1] M r M' :=
  cl_of hlt (by decide) (Nat.le_of_ble_eq_true rfl) (fun p e s m below meth c ls C hw hl => k_X6_garmentAt C M t0 a1 r M' h _ _ _ ht0 hw (lv_sub hl [0, 1] rfl))
theorem cy_X6_garmentAt : cl_cy yX6_garmentAt cX6_garmentAt 2 (some .int) 1 := ⟨in_ClothesLineModel, cd_X6_garmentAt, by decide +kernel, by decide +kernel, by decide +kernel⟩
theorem vy_X6_garmentAt : cl_vy yX6_garmentAt := ⟨im_X6_garmentAt, se_X6_garmentAt⟩
def f_X6_garmentByPlace_50 (r9 : cl_M → Nat → Int32 → Int32 → Option (Int32 × cl_M)) (M : cl_M) (t0 : Nat) (a2 : Int32) (a3 : Int32) : Option (Int32 × cl_M) := cl_let (a3 + 1) (fun v6 => r9 M t0 a2 v6)
set_option maxHeartbeats 4000000 in
set_option maxRecDepth 100000 in
theorem k_X6_garmentByPlace_50 {p : Program} {l : Launch} {e : Env} {s : State} {m : MethodId} {args : Array Value} {below : List Frame} {meth : Method} {c : Code} {dd : cl_D} {b : Nat} (C : cl_C p l s m args meth c cX6_garmentByPlace RX6 5 (some .int) dd b) {r9 : cl_M → Nat → Int32 → Int32 → Option (Int32 × cl_M)} (hr9 : ∀ (M : cl_M) (t0 : Nat) (a2 : Int32) (a3 : Int32) (r : Int32) (M' : cl_M), r9 M t0 a2 a3 = some (r, M') → ∀ (H : Heap) (locs : List Loc) (ls : Array Slot), cl_sh dd t0 = 6 → cl_H dd b M s H locs → lv_has ls 5 [(0, .ref (b + t0)), (2, .int a2), (3, .int a3)] → W p l e { frames := 4, cells := 0, slots := 0, locals := 87 } s m args below meth c H locs 0 0 (cl_Zi below args s dd b r M') (F0 m 9 ls [])) : ∀ (M : cl_M) (t0 : Nat) (a2 : Int32) (a3 : Int32) (r : Int32) (M' : cl_M), f_X6_garmentByPlace_50 r9 M t0 a2 a3 = some (r, M') → ∀ (H : Heap) (locs : List Loc) (ls : Array Slot), cl_sh dd t0 = 6 → cl_H dd b M s H locs → lv_has ls 5 [(0, .ref (b + t0)), (2, .int a2), (3, .int a3)] → W p l e { frames := 4, cells := 0, slots := 0, locals := 87 } s m args below meth c H locs 0 0 (cl_Zi below args s dd b r M') (F0 m 50 ls []) := by
  have hx := C.1
  have hb := C.2.1
  have hlt := C.2.2.2.2.2.2.2.2.2.2
  have hRr := C.2.2.2.2.2.2.2.2.2.1
  intro M t0 a2 a3 r M' hf H locs ls ht0 hw hl
  unfold f_X6_garmentByPlace_50 at hf
  obtain ⟨v6, ev6, hf⟩ := cl_let_e hf
  refine lv_iinc (v := v6) (lv' := [(3, .int v6), (0, .ref (b + t0)), (2, .int a2)]) hx hb dX6_garmentByPlace_50 hl (k := 2) rfl (by rw [ev6]; rfl) (by decide) rfl (fun ls hl => ?_)
  refine lv_goto (tgt := 9) hx hb dX6_garmentByPlace_53 (by decide) ?_
  exact hr9 M t0 a2 v6 _ _ hf _ _ _ ht0 hw (lv_sub hl [1, 2, 0] rfl)
def f_X6_garmentByPlace_9 : Nat → cl_M → Nat → Int32 → Int32 → Option (Int32 × cl_M)
  | 0, _, _, _, _ => none
  | k + 1, M, t0, a2, a3 => if 24 ≤ a3 then some ((-1), M) else (f_X6_onSpot M t0 a3).bind (fun v3 => if v3 = (-1) then f_X6_garmentByPlace_50 (f_X6_garmentByPlace_9 k) M t0 a2 a3 else (f_X6_of M t0 v3 7).bind (fun v7 => if v7 = a3 then if a2 = 0 then some (v3, M) else cl_let (a2 + (-1)) (fun v11 => f_X6_garmentByPlace_50 (f_X6_garmentByPlace_9 k) M t0 v11 a3) else f_X6_garmentByPlace_50 (f_X6_garmentByPlace_9 k) M t0 a2 a3))
set_option maxHeartbeats 4000000 in
set_option maxRecDepth 100000 in
theorem k_X6_garmentByPlace_9 {p : Program} {l : Launch} {e : Env} {s : State} {m : MethodId} {args : Array Value} {below : List Frame} {meth : Method} {c : Code} {dd : cl_D} {b : Nat} (C : cl_C p l s m args meth c cX6_garmentByPlace RX6 5 (some .int) dd b) : ∀ (k : Nat), ∀ (M : cl_M) (t0 : Nat) (a2 : Int32) (a3 : Int32) (r : Int32) (M' : cl_M), f_X6_garmentByPlace_9 k M t0 a2 a3 = some (r, M') → ∀ (H : Heap) (locs : List Loc) (ls : Array Slot), cl_sh dd t0 = 6 → cl_H dd b M s H locs → lv_has ls 5 [(0, .ref (b + t0)), (2, .int a2), (3, .int a3)] → W p l e { frames := 4, cells := 0, slots := 0, locals := 87 } s m args below meth c H locs 0 0 (cl_Zi below args s dd b r M') (F0 m 9 ls []) := by
  have hx := C.1
  have hb := C.2.1
  have hlt := C.2.2.2.2.2.2.2.2.2.2
  have hRr := C.2.2.2.2.2.2.2.2.2.1
  intro k
  induction k with
  | zero =>
    intro M t0 a2 a3 r M' hf H locs ls ht0 hw hl
    rw [f_X6_garmentByPlace_9] at hf
    cases hf
  | succ k ih =>
    intro M t0 a2 a3 r M' hf H locs ls ht0 hw hl
    rw [f_X6_garmentByPlace_9] at hf
    refine lv_iload_n hx hb dX6_garmentByPlace_9 rfl (lv_at hl 2 rfl) ?_
    refine lv_bipush (v := 24) hx hb dX6_garmentByPlace_10 (by decide) ?_
    refine lv_icmp_ge (tgt := 56) hx hb dX6_garmentByPlace_12 (by decide) (fun c2 => ?_) (fun c2 => ?_)
    · have hf := cl_yes c2 hf
      refine lv_iconst (v := (-1)) hx hb dX6_garmentByPlace_56 (by decide) ?_
      obtain ⟨rfl, rfl⟩ := cl_pair hf
      exact cr_reti C hw dX6_garmentByPlace_57
    · have hf := cl_no c2 hf
      refine lv_aload_n hx hb dX6_garmentByPlace_15 rfl (lv_at hl 0 rfl) ?_
      refine lv_iload_n hx hb dX6_garmentByPlace_16 rfl (lv_at hl 2 rfl) ?_
      obtain ⟨v3, e4, hf⟩ := cl_bind_e hf
      refine cr_Vi C hw (c_X6_onSpot hlt ht0 e4) cy_X6_onSpot vy_X6_onSpot ml_X6_329 (cl_lt ht0 (by decide)) (cl_e6 ht0) rfl rfl (As := [.int a3]) rfl hl.1 rfl ⟨⟨Nat.le_of_ble_eq_true rfl, Nat.le_of_ble_eq_true rfl⟩, Nat.le_of_ble_eq_true rfl, Nat.le_of_ble_eq_true rfl, Nat.le_of_ble_eq_true rfl⟩ dX6_garmentByPlace_17 (fun H locs hw => ?_)
      refine lv_istore (lv' := [(4, .int v3), (0, .ref (b + t0)), (2, .int a2), (3, .int a3)]) hx hb dX6_garmentByPlace_20 hl (by decide) rfl (fun ls hl => ?_)
      refine lv_iload hx hb dX6_garmentByPlace_22 (lv_at hl 0 rfl) ?_
      refine lv_iconst (v := (-1)) hx hb dX6_garmentByPlace_24 (by decide) ?_
      refine lv_icmp_eq (tgt := 50) hx hb dX6_garmentByPlace_25 (by decide) (fun c5 => ?_) (fun c5 => ?_)
      · have hf := cl_yes c5 hf
        exact k_X6_garmentByPlace_50 C ih M t0 a2 a3 _ _ hf _ _ _ ht0 hw (lv_sub hl [1, 2, 3] rfl)
      · have hf := cl_no c5 hf
        refine lv_aload_n hx hb dX6_garmentByPlace_28 rfl (lv_at hl 1 rfl) ?_
        refine lv_iload hx hb dX6_garmentByPlace_29 (lv_at hl 0 rfl) ?_
        refine lv_bipush (v := 7) hx hb dX6_garmentByPlace_31 (by decide) ?_
        obtain ⟨v7, e8, hf⟩ := cl_bind_e hf
        refine cr_Vi C hw (c_X6_of hlt ht0 e8) cy_X6_of vy_X6_of ml_X6_81 (cl_lt ht0 (by decide)) (cl_e6 ht0) rfl rfl (As := [.int v3, .int 7]) rfl hl.1 rfl ⟨⟨Nat.le_of_ble_eq_true rfl, Nat.le_of_ble_eq_true rfl⟩, Nat.le_of_ble_eq_true rfl, Nat.le_of_ble_eq_true rfl, Nat.le_of_ble_eq_true rfl⟩ dX6_garmentByPlace_33 (fun H locs hw => ?_)
        refine lv_iload_n hx hb dX6_garmentByPlace_36 rfl (lv_at hl 3 rfl) ?_
        refine lv_icmp_ne (tgt := 50) hx hb dX6_garmentByPlace_37 (by decide) (fun c9 => ?_) (fun c9 => ?_)
        · have hf := cl_no c9 hf
          exact k_X6_garmentByPlace_50 C ih M t0 a2 a3 _ _ hf _ _ _ ht0 hw (lv_sub hl [1, 2, 3] rfl)
        · have hf := cl_yes c9 hf
          refine lv_iload_n hx hb dX6_garmentByPlace_40 rfl (lv_at hl 2 rfl) ?_
          refine lv_if_ne (tgt := 47) hx hb dX6_garmentByPlace_41 (by decide) (fun c10 => ?_) (fun c10 => ?_)
          · have hf := cl_no c10 hf
            obtain ⟨v11, ev11, hf⟩ := cl_let_e hf
            refine lv_iinc (v := v11) (lv' := [(2, .int v11), (4, .int v3), (0, .ref (b + t0)), (3, .int a3)]) hx hb dX6_garmentByPlace_47 hl (k := 2) rfl (by rw [ev11]; rfl) (by decide) rfl (fun ls hl => ?_)
            exact k_X6_garmentByPlace_50 C ih M t0 v11 a3 _ _ hf _ _ _ ht0 hw (lv_sub hl [2, 0, 3] rfl)
          · have hf := cl_yes c10 hf
            refine lv_iload hx hb dX6_garmentByPlace_44 (lv_at hl 0 rfl) ?_
            obtain ⟨rfl, rfl⟩ := cl_pair hf
            exact cr_reti C hw dX6_garmentByPlace_46
def f_X6_garmentByPlace (M : cl_M) (t0 : Nat) (a1 : Int32) : Option (Int32 × cl_M) := cl_let (cl_ms M t0 4 0) (fun M1 => f_X6_garmentByPlace_9 cl_F M1 t0 a1 0)
set_option maxHeartbeats 4000000 in
set_option maxRecDepth 100000 in
theorem k_X6_garmentByPlace {p : Program} {l : Launch} {e : Env} {s : State} {m : MethodId} {args : Array Value} {below : List Frame} {meth : Method} {c : Code} {dd : cl_D} {b : Nat} (C : cl_C p l s m args meth c cX6_garmentByPlace RX6 5 (some .int) dd b) : ∀ (M : cl_M) (t0 : Nat) (a1 : Int32) (r : Int32) (M' : cl_M), f_X6_garmentByPlace M t0 a1 = some (r, M') → ∀ (H : Heap) (locs : List Loc) (ls : Array Slot), cl_sh dd t0 = 6 → cl_H dd b M s H locs → lv_has ls 5 [(0, .ref (b + t0)), (1, .int a1)] → W p l e { frames := 4, cells := 0, slots := 0, locals := 87 } s m args below meth c H locs 0 0 (cl_Zi below args s dd b r M') (F0 m 0 ls []) := by
  have hx := C.1
  have hb := C.2.1
  have hlt := C.2.2.2.2.2.2.2.2.2.2
  have hRr := C.2.2.2.2.2.2.2.2.2.1
  intro M t0 a1 r M' hf H locs ls ht0 hw hl
  unfold f_X6_garmentByPlace at hf
  refine lv_aload_n hx hb dX6_garmentByPlace_0 rfl (lv_at hl 0 rfl) ?_
  refine lv_iconst (v := 0) hx hb dX6_garmentByPlace_1 (by decide) ?_
  obtain ⟨M1, eM1, hf⟩ := cl_let_e hf
  refine fp_X6_60 C hw ht0 eM1 dX6_garmentByPlace_2 (fun H locs hw => ?_)
  refine lv_iload_n hx hb dX6_garmentByPlace_5 rfl (lv_at hl 1 rfl) ?_
  refine lv_istore_n (lv' := [(2, .int a1), (0, .ref (b + t0)), (1, .int a1)]) hx hb dX6_garmentByPlace_6 rfl hl (by decide) rfl (fun ls hl => ?_)
  refine lv_iconst (v := 0) hx hb dX6_garmentByPlace_7 (by decide) ?_
  refine lv_istore_n (lv' := [(3, .int 0), (2, .int a1), (0, .ref (b + t0)), (1, .int a1)]) hx hb dX6_garmentByPlace_8 rfl hl (by decide) rfl (fun ls hl => ?_)
  exact k_X6_garmentByPlace_9 C cl_F M1 t0 a1 0 _ _ hf _ _ _ ht0 hw (lv_sub hl [2, 1, 0] rfl)
set_option maxRecDepth 100000 in
theorem c_X6_garmentByPlace {l : Launch} {dd : cl_D} {b : Nat} (hlt : l.stackTraces = false) {M : cl_M} {t0 : Nat} {a1 : Int32}  {r : Int32} {M' : cl_M} (ht0 : cl_sh dd t0 = 6) (h : f_X6_garmentByPlace M t0 a1 = some (r, M')) : cl_Mi l dd b yX6_garmentByPlace cX6_garmentByPlace 5 (some .int) 4 87 [.ref (b + t0), .int a1] M r M' :=
  cl_of hlt (by decide) (Nat.le_of_ble_eq_true rfl) (fun p e s m below meth c ls C hw hl => k_X6_garmentByPlace C M t0 a1 r M' h _ _ _ ht0 hw (lv_sub hl [0, 1] rfl))
theorem cy_X6_garmentByPlace : cl_cy yX6_garmentByPlace cX6_garmentByPlace 5 (some .int) 1 := ⟨in_ClothesLineModel, cd_X6_garmentByPlace, by decide +kernel, by decide +kernel, by decide +kernel⟩
theorem vy_X6_garmentByPlace : cl_vy yX6_garmentByPlace := ⟨im_X6_garmentByPlace, se_X6_garmentByPlace⟩
def f_X6_isGarment_32 (M : cl_M) (z0 : Int32) : Option (Int32 × cl_M) := if cl_bz z0 = true then some (z0, M) else none
set_option maxHeartbeats 4000000 in
set_option maxRecDepth 100000 in
theorem k_X6_isGarment_32 {p : Program} {l : Launch} {e : Env} {s : State} {m : MethodId} {args : Array Value} {below : List Frame} {meth : Method} {c : Code} {dd : cl_D} {b : Nat} (C : cl_C p l s m args meth c cX6_isGarment RX6 2 (some .boolean) dd b) : ∀ (M : cl_M) (z0 : Int32) (r : Int32) (M' : cl_M), f_X6_isGarment_32 M z0 = some (r, M') → ∀ (H : Heap) (locs : List Loc) (ls : Array Slot), cl_H dd b M s H locs → lv_has ls 2 [] → W p l e { frames := 1, cells := 0, slots := 0, locals := 22 } s m args below meth c H locs 0 0 (cl_Zi below args s dd b r M') (F0 m 32 ls [.int z0]) := by
  have hx := C.1
  have hb := C.2.1
  have hlt := C.2.2.2.2.2.2.2.2.2.2
  have hRr := C.2.2.2.2.2.2.2.2.2.1
  intro M z0 r M' hf H locs ls hw hl
  unfold f_X6_isGarment_32 at hf
  obtain ⟨q8, hf⟩ := cl_grd hf
  obtain ⟨rfl, rfl⟩ := cl_pair hf
  exact cr_retz C hw q8 dX6_isGarment_32
def f_X6_isGarment (M : cl_M) (t0 : Nat) (a1 : Int32) : Option (Int32 × cl_M) := cl_let (cl_ms M t0 4 0) (fun M1 => (f_X6_inRange M1 a1 0 ((M1 (t0 + 2) 7) - 1)).bind (fun v2 => cl_b2 (f_X6_fails M1 t0 v2 1) (fun v4 M5 => if v4 = 0 then f_X6_isGarment_32 M5 1 else f_X6_isGarment_32 M5 0)))
set_option maxHeartbeats 4000000 in
set_option maxRecDepth 100000 in
theorem k_X6_isGarment {p : Program} {l : Launch} {e : Env} {s : State} {m : MethodId} {args : Array Value} {below : List Frame} {meth : Method} {c : Code} {dd : cl_D} {b : Nat} (C : cl_C p l s m args meth c cX6_isGarment RX6 2 (some .boolean) dd b) : ∀ (M : cl_M) (t0 : Nat) (a1 : Int32) (r : Int32) (M' : cl_M), f_X6_isGarment M t0 a1 = some (r, M') → ∀ (H : Heap) (locs : List Loc) (ls : Array Slot), cl_sh dd t0 = 6 → cl_H dd b M s H locs → lv_has ls 2 [(0, .ref (b + t0)), (1, .int a1)] → W p l e { frames := 1, cells := 0, slots := 0, locals := 22 } s m args below meth c H locs 0 0 (cl_Zi below args s dd b r M') (F0 m 0 ls []) := by
  have hx := C.1
  have hb := C.2.1
  have hlt := C.2.2.2.2.2.2.2.2.2.2
  have hRr := C.2.2.2.2.2.2.2.2.2.1
  intro M t0 a1 r M' hf H locs ls ht0 hw hl
  unfold f_X6_isGarment at hf
  refine lv_aload_n hx hb dX6_isGarment_0 rfl (lv_at hl 0 rfl) ?_
  refine lv_iconst (v := 0) hx hb dX6_isGarment_1 (by decide) ?_
  obtain ⟨M1, eM1, hf⟩ := cl_let_e hf
  refine fp_X6_60 C hw ht0 eM1 dX6_isGarment_2 (fun H locs hw => ?_)
  refine lv_aload_n hx hb dX6_isGarment_5 rfl (lv_at hl 0 rfl) ?_
  refine lv_iload_n hx hb dX6_isGarment_6 rfl (lv_at hl 1 rfl) ?_
  refine lv_iconst (v := 0) hx hb dX6_isGarment_7 (by decide) ?_
  refine lv_aload_n hx hb dX6_isGarment_8 rfl (lv_at hl 0 rfl) ?_
  refine fg_X6_17 C hw ht0 dX6_isGarment_9 ?_
  refine lv_bipush (v := 7) hx hb dX6_isGarment_12 (by decide) ?_
  refine cr_iald C hw (sh_6_5 ht0).1 (sh_6_5 ht0).2 (by decide) (k := 7) rfl dX6_isGarment_14 ?_
  refine lv_iconst (v := 1) hx hb dX6_isGarment_15 (by decide) ?_
  refine lv_isub hx hb dX6_isGarment_16 ?_
  obtain ⟨v2, e3, hf⟩ := cl_bind_e hf
  refine cr_Si C hw (c_X6_inRange hlt e3) cy_X6_inRange st_X6_inRange ml_X6_63 (As := [.int a1, .int 0, .int ((M1 (t0 + 2) 7) - 1)]) rfl hl.1 rfl ⟨⟨Nat.le_of_ble_eq_true rfl, Nat.le_of_ble_eq_true rfl⟩, Nat.le_of_ble_eq_true rfl, Nat.le_of_ble_eq_true rfl, Nat.le_of_ble_eq_true rfl⟩ dX6_isGarment_17 (fun H locs hw => ?_)
  refine lv_iconst (v := 1) hx hb dX6_isGarment_20 (by decide) ?_
  obtain ⟨v4, M5, e6, hf⟩ := cl_b2_e hf
  refine cr_Vi C hw (c_X6_fails hlt ht0 e6) cy_X6_fails vy_X6_fails ml_X6_313 (cl_lt ht0 (by decide)) (cl_e6 ht0) rfl rfl (As := [.int v2, .int 1]) rfl hl.1 rfl ⟨⟨Nat.le_of_ble_eq_true rfl, Nat.le_of_ble_eq_true rfl⟩, Nat.le_of_ble_eq_true rfl, Nat.le_of_ble_eq_true rfl, Nat.le_of_ble_eq_true rfl⟩ dX6_isGarment_21 (fun H locs hw => ?_)
  refine lv_if_ne (tgt := 31) hx hb dX6_isGarment_24 (by decide) (fun c7 => ?_) (fun c7 => ?_)
  · have hf := cl_no c7 hf
    refine lv_iconst (v := 0) hx hb dX6_isGarment_31 (by decide) ?_
    exact k_X6_isGarment_32 C M5 0 _ _ hf _ _ _ hw (lv_sub hl [] rfl)
  · have hf := cl_yes c7 hf
    refine lv_iconst (v := 1) hx hb dX6_isGarment_27 (by decide) ?_
    refine lv_goto (tgt := 32) hx hb dX6_isGarment_28 (by decide) ?_
    exact k_X6_isGarment_32 C M5 1 _ _ hf _ _ _ hw (lv_sub hl [] rfl)
set_option maxRecDepth 100000 in
theorem c_X6_isGarment {l : Launch} {dd : cl_D} {b : Nat} (hlt : l.stackTraces = false) {M : cl_M} {t0 : Nat} {a1 : Int32}  {r : Int32} {M' : cl_M} (ht0 : cl_sh dd t0 = 6) (h : f_X6_isGarment M t0 a1 = some (r, M')) : cl_Mi l dd b yX6_isGarment cX6_isGarment 2 (some .boolean) 1 22 [.ref (b + t0), .int a1] M r M' :=
  cl_of hlt (by decide) (Nat.le_of_ble_eq_true rfl) (fun p e s m below meth c ls C hw hl => k_X6_isGarment C M t0 a1 r M' h _ _ _ ht0 hw (lv_sub hl [0, 1] rfl))
theorem cy_X6_isGarment : cl_cy yX6_isGarment cX6_isGarment 2 (some .boolean) 1 := ⟨in_ClothesLineModel, cd_X6_isGarment, by decide +kernel, by decide +kernel, by decide +kernel⟩
theorem vy_X6_isGarment : cl_vy yX6_isGarment := ⟨im_X6_isGarment, se_X6_isGarment⟩
def f_X6_asked_18 (M : cl_M) (z0 : Int32) : Option (Int32 × cl_M) := some (z0, M)
set_option maxHeartbeats 4000000 in
set_option maxRecDepth 100000 in
theorem k_X6_asked_18 {p : Program} {l : Launch} {e : Env} {s : State} {m : MethodId} {args : Array Value} {below : List Frame} {meth : Method} {c : Code} {dd : cl_D} {b : Nat} (C : cl_C p l s m args meth c cX6_asked RX6 3 (some .int) dd b) : ∀ (M : cl_M) (z0 : Int32) (r : Int32) (M' : cl_M), f_X6_asked_18 M z0 = some (r, M') → ∀ (H : Heap) (locs : List Loc) (ls : Array Slot), cl_H dd b M s H locs → lv_has ls 3 [] → W p l e { frames := 2, cells := 0, slots := 0, locals := 43 } s m args below meth c H locs 0 0 (cl_Zi below args s dd b r M') (F0 m 18 ls [.int z0]) := by
  have hx := C.1
  have hb := C.2.1
  have hlt := C.2.2.2.2.2.2.2.2.2.2
  have hRr := C.2.2.2.2.2.2.2.2.2.1
  intro M z0 r M' hf H locs ls hw hl
  unfold f_X6_asked_18 at hf
  obtain ⟨rfl, rfl⟩ := cl_pair hf
  exact cr_reti C hw dX6_asked_18
def f_X6_asked (M : cl_M) (t0 : Nat) (a1 : Int32) (a2 : Int32) : Option (Int32 × cl_M) := cl_b2 (f_X6_isGarment M t0 a1) (fun v1 M2 => if v1 = 0 then f_X6_asked_18 M2 0 else (f_X6_of M2 t0 a1 a2).bind (fun v5 => f_X6_asked_18 M2 v5))
set_option maxHeartbeats 4000000 in
set_option maxRecDepth 100000 in
theorem k_X6_asked {p : Program} {l : Launch} {e : Env} {s : State} {m : MethodId} {args : Array Value} {below : List Frame} {meth : Method} {c : Code} {dd : cl_D} {b : Nat} (C : cl_C p l s m args meth c cX6_asked RX6 3 (some .int) dd b) : ∀ (M : cl_M) (t0 : Nat) (a1 : Int32) (a2 : Int32) (r : Int32) (M' : cl_M), f_X6_asked M t0 a1 a2 = some (r, M') → ∀ (H : Heap) (locs : List Loc) (ls : Array Slot), cl_sh dd t0 = 6 → cl_H dd b M s H locs → lv_has ls 3 [(0, .ref (b + t0)), (1, .int a1), (2, .int a2)] → W p l e { frames := 2, cells := 0, slots := 0, locals := 43 } s m args below meth c H locs 0 0 (cl_Zi below args s dd b r M') (F0 m 0 ls []) := by
  have hx := C.1
  have hb := C.2.1
  have hlt := C.2.2.2.2.2.2.2.2.2.2
  have hRr := C.2.2.2.2.2.2.2.2.2.1
  intro M t0 a1 a2 r M' hf H locs ls ht0 hw hl
  unfold f_X6_asked at hf
  refine lv_aload_n hx hb dX6_asked_0 rfl (lv_at hl 0 rfl) ?_
  refine lv_iload_n hx hb dX6_asked_1 rfl (lv_at hl 1 rfl) ?_
  obtain ⟨v1, M2, e3, hf⟩ := cl_b2_e hf
  refine cr_Vi C hw (c_X6_isGarment hlt ht0 e3) cy_X6_isGarment vy_X6_isGarment ml_X6_332 (cl_lt ht0 (by decide)) (cl_e6 ht0) rfl rfl (As := [.int a1]) rfl hl.1 rfl ⟨⟨Nat.le_of_ble_eq_true rfl, Nat.le_of_ble_eq_true rfl⟩, Nat.le_of_ble_eq_true rfl, Nat.le_of_ble_eq_true rfl, Nat.le_of_ble_eq_true rfl⟩ dX6_asked_2 (fun H locs hw => ?_)
  refine lv_if_eq (tgt := 17) hx hb dX6_asked_5 (by decide) (fun c4 => ?_) (fun c4 => ?_)
  · have hf := cl_yes c4 hf
    refine lv_iconst (v := 0) hx hb dX6_asked_17 (by decide) ?_
    exact k_X6_asked_18 C M2 0 _ _ hf _ _ _ hw (lv_sub hl [] rfl)
  · have hf := cl_no c4 hf
    refine lv_aload_n hx hb dX6_asked_8 rfl (lv_at hl 0 rfl) ?_
    refine lv_iload_n hx hb dX6_asked_9 rfl (lv_at hl 1 rfl) ?_
    refine lv_iload_n hx hb dX6_asked_10 rfl (lv_at hl 2 rfl) ?_
    obtain ⟨v5, e6, hf⟩ := cl_bind_e hf
    refine cr_Vi C hw (c_X6_of hlt ht0 e6) cy_X6_of vy_X6_of ml_X6_81 (cl_lt ht0 (by decide)) (cl_e6 ht0) rfl rfl (As := [.int a1, .int a2]) rfl hl.1 rfl ⟨⟨Nat.le_of_ble_eq_true rfl, Nat.le_of_ble_eq_true rfl⟩, Nat.le_of_ble_eq_true rfl, Nat.le_of_ble_eq_true rfl, Nat.le_of_ble_eq_true rfl⟩ dX6_asked_11 (fun H locs hw => ?_)
    refine lv_goto (tgt := 18) hx hb dX6_asked_14 (by decide) ?_
    exact k_X6_asked_18 C M2 v5 _ _ hf _ _ _ hw (lv_sub hl [] rfl)
set_option maxRecDepth 100000 in
theorem c_X6_asked {l : Launch} {dd : cl_D} {b : Nat} (hlt : l.stackTraces = false) {M : cl_M} {t0 : Nat} {a1 : Int32} {a2 : Int32}  {r : Int32} {M' : cl_M} (ht0 : cl_sh dd t0 = 6) (h : f_X6_asked M t0 a1 a2 = some (r, M')) : cl_Mi l dd b yX6_asked cX6_asked 3 (some .int) 2 43 [.ref (b + t0), .int a1, .int a2] M r M' :=
  cl_of hlt (by decide) (Nat.le_of_ble_eq_true rfl) (fun p e s m below meth c ls C hw hl => k_X6_asked C M t0 a1 a2 r M' h _ _ _ ht0 hw (lv_sub hl [0, 1, 2] rfl))
theorem cy_X6_asked : cl_cy yX6_asked cX6_asked 3 (some .int) 2 := ⟨in_ClothesLineModel, cd_X6_asked, by decide +kernel, by decide +kernel, by decide +kernel⟩
theorem vy_X6_asked : cl_vy yX6_asked := ⟨im_X6_asked, se_X6_asked⟩
def f_X6_garmentCount (M : cl_M) (t0 : Nat) : Option (Int32 × cl_M) := cl_b2 (f_X6_plain M t0 (M (t0 + 2) 7)) (fun v1 M2 => some (v1, M2))
set_option maxHeartbeats 4000000 in
set_option maxRecDepth 100000 in
theorem k_X6_garmentCount {p : Program} {l : Launch} {e : Env} {s : State} {m : MethodId} {args : Array Value} {below : List Frame} {meth : Method} {c : Code} {dd : cl_D} {b : Nat} (C : cl_C p l s m args meth c cX6_garmentCount RX6 1 (some .int) dd b) : ∀ (M : cl_M) (t0 : Nat) (r : Int32) (M' : cl_M), f_X6_garmentCount M t0 = some (r, M') → ∀ (H : Heap) (locs : List Loc) (ls : Array Slot), cl_sh dd t0 = 6 → cl_H dd b M s H locs → lv_has ls 1 [(0, .ref (b + t0))] → W p l e { frames := 1, cells := 0, slots := 0, locals := 21 } s m args below meth c H locs 0 0 (cl_Zi below args s dd b r M') (F0 m 0 ls []) := by
  have hx := C.1
  have hb := C.2.1
  have hlt := C.2.2.2.2.2.2.2.2.2.2
  have hRr := C.2.2.2.2.2.2.2.2.2.1
  intro M t0 r M' hf H locs ls ht0 hw hl
  unfold f_X6_garmentCount at hf
  refine lv_aload_n hx hb dX6_garmentCount_0 rfl (lv_at hl 0 rfl) ?_
  refine lv_aload_n hx hb dX6_garmentCount_1 rfl (lv_at hl 0 rfl) ?_
  refine fg_X6_17 C hw ht0 dX6_garmentCount_2 ?_
  refine lv_bipush (v := 7) hx hb dX6_garmentCount_5 (by decide) ?_
  refine cr_iald C hw (sh_6_5 ht0).1 (sh_6_5 ht0).2 (by decide) (k := 7) rfl dX6_garmentCount_7 ?_
  obtain ⟨v1, M2, e3, hf⟩ := cl_b2_e hf
  refine cr_Vi C hw (c_X6_plain hlt ht0 e3) cy_X6_plain vy_X6_plain ml_X6_310 (cl_lt ht0 (by decide)) (cl_e6 ht0) rfl rfl (As := [.int (M (t0 + 2) 7)]) rfl hl.1 rfl ⟨⟨Nat.le_of_ble_eq_true rfl, Nat.le_of_ble_eq_true rfl⟩, Nat.le_of_ble_eq_true rfl, Nat.le_of_ble_eq_true rfl, Nat.le_of_ble_eq_true rfl⟩ dX6_garmentCount_8 (fun H locs hw => ?_)
  obtain ⟨rfl, rfl⟩ := cl_pair hf
  exact cr_reti C hw dX6_garmentCount_11
set_option maxRecDepth 100000 in
theorem c_X6_garmentCount {l : Launch} {dd : cl_D} {b : Nat} (hlt : l.stackTraces = false) {M : cl_M} {t0 : Nat}  {r : Int32} {M' : cl_M} (ht0 : cl_sh dd t0 = 6) (h : f_X6_garmentCount M t0 = some (r, M')) : cl_Mi l dd b yX6_garmentCount cX6_garmentCount 1 (some .int) 1 21 [.ref (b + t0)] M r M' :=
  cl_of hlt (by decide) (Nat.le_of_ble_eq_true rfl) (fun p e s m below meth c ls C hw hl => k_X6_garmentCount C M t0 r M' h _ _ _ ht0 hw (lv_sub hl [0] rfl))
theorem cy_X6_garmentCount : cl_cy yX6_garmentCount cX6_garmentCount 1 (some .int) 0 := ⟨in_ClothesLineModel, cd_X6_garmentCount, by decide +kernel, by decide +kernel, by decide +kernel⟩
theorem vy_X6_garmentCount : cl_vy yX6_garmentCount := ⟨im_X6_garmentCount, se_X6_garmentCount⟩
def f_X6_stateOf (M : cl_M) (t0 : Nat) (a1 : Int32) : Option (Int32 × cl_M) := cl_b2 (f_X6_asked M t0 a1 6) (fun v1 M2 => some (v1, M2))
set_option maxHeartbeats 4000000 in
set_option maxRecDepth 100000 in
theorem k_X6_stateOf {p : Program} {l : Launch} {e : Env} {s : State} {m : MethodId} {args : Array Value} {below : List Frame} {meth : Method} {c : Code} {dd : cl_D} {b : Nat} (C : cl_C p l s m args meth c cX6_stateOf RX6 2 (some .int) dd b) : ∀ (M : cl_M) (t0 : Nat) (a1 : Int32) (r : Int32) (M' : cl_M), f_X6_stateOf M t0 a1 = some (r, M') → ∀ (H : Heap) (locs : List Loc) (ls : Array Slot), cl_sh dd t0 = 6 → cl_H dd b M s H locs → lv_has ls 2 [(0, .ref (b + t0)), (1, .int a1)] → W p l e { frames := 3, cells := 0, slots := 0, locals := 65 } s m args below meth c H locs 0 0 (cl_Zi below args s dd b r M') (F0 m 0 ls []) := by
  have hx := C.1
  have hb := C.2.1
  have hlt := C.2.2.2.2.2.2.2.2.2.2
  have hRr := C.2.2.2.2.2.2.2.2.2.1
  intro M t0 a1 r M' hf H locs ls ht0 hw hl
  unfold f_X6_stateOf at hf
  refine lv_aload_n hx hb dX6_stateOf_0 rfl (lv_at hl 0 rfl) ?_
  refine lv_iload_n hx hb dX6_stateOf_1 rfl (lv_at hl 1 rfl) ?_
  refine lv_bipush (v := 6) hx hb dX6_stateOf_2 (by decide) ?_
  obtain ⟨v1, M2, e3, hf⟩ := cl_b2_e hf
  refine cr_Vi C hw (c_X6_asked hlt ht0 e3) cy_X6_asked vy_X6_asked ml_X6_335 (cl_lt ht0 (by decide)) (cl_e6 ht0) rfl rfl (As := [.int a1, .int 6]) rfl hl.1 rfl ⟨⟨Nat.le_of_ble_eq_true rfl, Nat.le_of_ble_eq_true rfl⟩, Nat.le_of_ble_eq_true rfl, Nat.le_of_ble_eq_true rfl, Nat.le_of_ble_eq_true rfl⟩ dX6_stateOf_4 (fun H locs hw => ?_)
  obtain ⟨rfl, rfl⟩ := cl_pair hf
  exact cr_reti C hw dX6_stateOf_7
set_option maxRecDepth 100000 in
theorem c_X6_stateOf {l : Launch} {dd : cl_D} {b : Nat} (hlt : l.stackTraces = false) {M : cl_M} {t0 : Nat} {a1 : Int32}  {r : Int32} {M' : cl_M} (ht0 : cl_sh dd t0 = 6) (h : f_X6_stateOf M t0 a1 = some (r, M')) : cl_Mi l dd b yX6_stateOf cX6_stateOf 2 (some .int) 3 65 [.ref (b + t0), .int a1] M r M' :=
  cl_of hlt (by decide) (Nat.le_of_ble_eq_true rfl) (fun p e s m below meth c ls C hw hl => k_X6_stateOf C M t0 a1 r M' h _ _ _ ht0 hw (lv_sub hl [0, 1] rfl))
theorem cy_X6_stateOf : cl_cy yX6_stateOf cX6_stateOf 2 (some .int) 1 := ⟨in_ClothesLineModel, cd_X6_stateOf, by decide +kernel, by decide +kernel, by decide +kernel⟩
theorem vy_X6_stateOf : cl_vy yX6_stateOf := ⟨im_X6_stateOf, se_X6_stateOf⟩
def f_X6_widthOf (M : cl_M) (t0 : Nat) (a1 : Int32) : Option (Int32 × cl_M) := cl_b2 (f_X6_asked M t0 a1 0) (fun v1 M2 => some (v1, M2))
set_option maxHeartbeats 4000000 in
set_option maxRecDepth 100000 in
theorem k_X6_widthOf {p : Program} {l : Launch} {e : Env} {s : State} {m : MethodId} {args : Array Value} {below : List Frame} {meth : Method} {c : Code} {dd : cl_D} {b : Nat} (C : cl_C p l s m args meth c cX6_widthOf RX6 2 (some .int) dd b) : ∀ (M : cl_M) (t0 : Nat) (a1 : Int32) (r : Int32) (M' : cl_M), f_X6_widthOf M t0 a1 = some (r, M') → ∀ (H : Heap) (locs : List Loc) (ls : Array Slot), cl_sh dd t0 = 6 → cl_H dd b M s H locs → lv_has ls 2 [(0, .ref (b + t0)), (1, .int a1)] → W p l e { frames := 3, cells := 0, slots := 0, locals := 65 } s m args below meth c H locs 0 0 (cl_Zi below args s dd b r M') (F0 m 0 ls []) := by
  have hx := C.1
  have hb := C.2.1
  have hlt := C.2.2.2.2.2.2.2.2.2.2
  have hRr := C.2.2.2.2.2.2.2.2.2.1
  intro M t0 a1 r M' hf H locs ls ht0 hw hl
  unfold f_X6_widthOf at hf
  refine lv_aload_n hx hb dX6_widthOf_0 rfl (lv_at hl 0 rfl) ?_
  refine lv_iload_n hx hb dX6_widthOf_1 rfl (lv_at hl 1 rfl) ?_
  refine lv_iconst (v := 0) hx hb dX6_widthOf_2 (by decide) ?_
  obtain ⟨v1, M2, e3, hf⟩ := cl_b2_e hf
  refine cr_Vi C hw (c_X6_asked hlt ht0 e3) cy_X6_asked vy_X6_asked ml_X6_335 (cl_lt ht0 (by decide)) (cl_e6 ht0) rfl rfl (As := [.int a1, .int 0]) rfl hl.1 rfl ⟨⟨Nat.le_of_ble_eq_true rfl, Nat.le_of_ble_eq_true rfl⟩, Nat.le_of_ble_eq_true rfl, Nat.le_of_ble_eq_true rfl, Nat.le_of_ble_eq_true rfl⟩ dX6_widthOf_3 (fun H locs hw => ?_)
  obtain ⟨rfl, rfl⟩ := cl_pair hf
  exact cr_reti C hw dX6_widthOf_6
set_option maxRecDepth 100000 in
theorem c_X6_widthOf {l : Launch} {dd : cl_D} {b : Nat} (hlt : l.stackTraces = false) {M : cl_M} {t0 : Nat} {a1 : Int32}  {r : Int32} {M' : cl_M} (ht0 : cl_sh dd t0 = 6) (h : f_X6_widthOf M t0 a1 = some (r, M')) : cl_Mi l dd b yX6_widthOf cX6_widthOf 2 (some .int) 3 65 [.ref (b + t0), .int a1] M r M' :=
  cl_of hlt (by decide) (Nat.le_of_ble_eq_true rfl) (fun p e s m below meth c ls C hw hl => k_X6_widthOf C M t0 a1 r M' h _ _ _ ht0 hw (lv_sub hl [0, 1] rfl))
theorem cy_X6_widthOf : cl_cy yX6_widthOf cX6_widthOf 2 (some .int) 1 := ⟨in_ClothesLineModel, cd_X6_widthOf, by decide +kernel, by decide +kernel, by decide +kernel⟩
theorem vy_X6_widthOf : cl_vy yX6_widthOf := ⟨im_X6_widthOf, se_X6_widthOf⟩
def f_X6_dryWeight (M : cl_M) (t0 : Nat) (a1 : Int32) : Option (Int32 × cl_M) := cl_b2 (f_X6_asked M t0 a1 1) (fun v1 M2 => some (v1, M2))
set_option maxHeartbeats 4000000 in
set_option maxRecDepth 100000 in
theorem k_X6_dryWeight {p : Program} {l : Launch} {e : Env} {s : State} {m : MethodId} {args : Array Value} {below : List Frame} {meth : Method} {c : Code} {dd : cl_D} {b : Nat} (C : cl_C p l s m args meth c cX6_dryWeight RX6 2 (some .int) dd b) : ∀ (M : cl_M) (t0 : Nat) (a1 : Int32) (r : Int32) (M' : cl_M), f_X6_dryWeight M t0 a1 = some (r, M') → ∀ (H : Heap) (locs : List Loc) (ls : Array Slot), cl_sh dd t0 = 6 → cl_H dd b M s H locs → lv_has ls 2 [(0, .ref (b + t0)), (1, .int a1)] → W p l e { frames := 3, cells := 0, slots := 0, locals := 65 } s m args below meth c H locs 0 0 (cl_Zi below args s dd b r M') (F0 m 0 ls []) := by
  have hx := C.1
  have hb := C.2.1
  have hlt := C.2.2.2.2.2.2.2.2.2.2
  have hRr := C.2.2.2.2.2.2.2.2.2.1
  intro M t0 a1 r M' hf H locs ls ht0 hw hl
  unfold f_X6_dryWeight at hf
  refine lv_aload_n hx hb dX6_dryWeight_0 rfl (lv_at hl 0 rfl) ?_
  refine lv_iload_n hx hb dX6_dryWeight_1 rfl (lv_at hl 1 rfl) ?_
  refine lv_iconst (v := 1) hx hb dX6_dryWeight_2 (by decide) ?_
  obtain ⟨v1, M2, e3, hf⟩ := cl_b2_e hf
  refine cr_Vi C hw (c_X6_asked hlt ht0 e3) cy_X6_asked vy_X6_asked ml_X6_335 (cl_lt ht0 (by decide)) (cl_e6 ht0) rfl rfl (As := [.int a1, .int 1]) rfl hl.1 rfl ⟨⟨Nat.le_of_ble_eq_true rfl, Nat.le_of_ble_eq_true rfl⟩, Nat.le_of_ble_eq_true rfl, Nat.le_of_ble_eq_true rfl, Nat.le_of_ble_eq_true rfl⟩ dX6_dryWeight_3 (fun H locs hw => ?_)
  obtain ⟨rfl, rfl⟩ := cl_pair hf
  exact cr_reti C hw dX6_dryWeight_6
set_option maxRecDepth 100000 in
theorem c_X6_dryWeight {l : Launch} {dd : cl_D} {b : Nat} (hlt : l.stackTraces = false) {M : cl_M} {t0 : Nat} {a1 : Int32}  {r : Int32} {M' : cl_M} (ht0 : cl_sh dd t0 = 6) (h : f_X6_dryWeight M t0 a1 = some (r, M')) : cl_Mi l dd b yX6_dryWeight cX6_dryWeight 2 (some .int) 3 65 [.ref (b + t0), .int a1] M r M' :=
  cl_of hlt (by decide) (Nat.le_of_ble_eq_true rfl) (fun p e s m below meth c ls C hw hl => k_X6_dryWeight C M t0 a1 r M' h _ _ _ ht0 hw (lv_sub hl [0, 1] rfl))
theorem cy_X6_dryWeight : cl_cy yX6_dryWeight cX6_dryWeight 2 (some .int) 1 := ⟨in_ClothesLineModel, cd_X6_dryWeight, by decide +kernel, by decide +kernel, by decide +kernel⟩
theorem vy_X6_dryWeight : cl_vy yX6_dryWeight := ⟨im_X6_dryWeight, se_X6_dryWeight⟩
def f_X6_capacityOf (M : cl_M) (t0 : Nat) (a1 : Int32) : Option (Int32 × cl_M) := cl_b2 (f_X6_asked M t0 a1 2) (fun v1 M2 => some (v1, M2))
set_option maxHeartbeats 4000000 in
set_option maxRecDepth 100000 in
theorem k_X6_capacityOf {p : Program} {l : Launch} {e : Env} {s : State} {m : MethodId} {args : Array Value} {below : List Frame} {meth : Method} {c : Code} {dd : cl_D} {b : Nat} (C : cl_C p l s m args meth c cX6_capacityOf RX6 2 (some .int) dd b) : ∀ (M : cl_M) (t0 : Nat) (a1 : Int32) (r : Int32) (M' : cl_M), f_X6_capacityOf M t0 a1 = some (r, M') → ∀ (H : Heap) (locs : List Loc) (ls : Array Slot), cl_sh dd t0 = 6 → cl_H dd b M s H locs → lv_has ls 2 [(0, .ref (b + t0)), (1, .int a1)] → W p l e { frames := 3, cells := 0, slots := 0, locals := 65 } s m args below meth c H locs 0 0 (cl_Zi below args s dd b r M') (F0 m 0 ls []) := by
  have hx := C.1
  have hb := C.2.1
  have hlt := C.2.2.2.2.2.2.2.2.2.2
  have hRr := C.2.2.2.2.2.2.2.2.2.1
  intro M t0 a1 r M' hf H locs ls ht0 hw hl
  unfold f_X6_capacityOf at hf
  refine lv_aload_n hx hb dX6_capacityOf_0 rfl (lv_at hl 0 rfl) ?_
  refine lv_iload_n hx hb dX6_capacityOf_1 rfl (lv_at hl 1 rfl) ?_
  refine lv_iconst (v := 2) hx hb dX6_capacityOf_2 (by decide) ?_
  obtain ⟨v1, M2, e3, hf⟩ := cl_b2_e hf
  refine cr_Vi C hw (c_X6_asked hlt ht0 e3) cy_X6_asked vy_X6_asked ml_X6_335 (cl_lt ht0 (by decide)) (cl_e6 ht0) rfl rfl (As := [.int a1, .int 2]) rfl hl.1 rfl ⟨⟨Nat.le_of_ble_eq_true rfl, Nat.le_of_ble_eq_true rfl⟩, Nat.le_of_ble_eq_true rfl, Nat.le_of_ble_eq_true rfl, Nat.le_of_ble_eq_true rfl⟩ dX6_capacityOf_3 (fun H locs hw => ?_)
  obtain ⟨rfl, rfl⟩ := cl_pair hf
  exact cr_reti C hw dX6_capacityOf_6
set_option maxRecDepth 100000 in
theorem c_X6_capacityOf {l : Launch} {dd : cl_D} {b : Nat} (hlt : l.stackTraces = false) {M : cl_M} {t0 : Nat} {a1 : Int32}  {r : Int32} {M' : cl_M} (ht0 : cl_sh dd t0 = 6) (h : f_X6_capacityOf M t0 a1 = some (r, M')) : cl_Mi l dd b yX6_capacityOf cX6_capacityOf 2 (some .int) 3 65 [.ref (b + t0), .int a1] M r M' :=
  cl_of hlt (by decide) (Nat.le_of_ble_eq_true rfl) (fun p e s m below meth c ls C hw hl => k_X6_capacityOf C M t0 a1 r M' h _ _ _ ht0 hw (lv_sub hl [0, 1] rfl))
theorem cy_X6_capacityOf : cl_cy yX6_capacityOf cX6_capacityOf 2 (some .int) 1 := ⟨in_ClothesLineModel, cd_X6_capacityOf, by decide +kernel, by decide +kernel, by decide +kernel⟩
theorem vy_X6_capacityOf : cl_vy yX6_capacityOf := ⟨im_X6_capacityOf, se_X6_capacityOf⟩
def f_X6_waterOf (M : cl_M) (t0 : Nat) (a1 : Int32) : Option (Int32 × cl_M) := cl_b2 (f_X6_asked M t0 a1 3) (fun v1 M2 => some (v1, M2))
set_option maxHeartbeats 4000000 in
set_option maxRecDepth 100000 in
theorem k_X6_waterOf {p : Program} {l : Launch} {e : Env} {s : State} {m : MethodId} {args : Array Value} {below : List Frame} {meth : Method} {c : Code} {dd : cl_D} {b : Nat} (C : cl_C p l s m args meth c cX6_waterOf RX6 2 (some .int) dd b) : ∀ (M : cl_M) (t0 : Nat) (a1 : Int32) (r : Int32) (M' : cl_M), f_X6_waterOf M t0 a1 = some (r, M') → ∀ (H : Heap) (locs : List Loc) (ls : Array Slot), cl_sh dd t0 = 6 → cl_H dd b M s H locs → lv_has ls 2 [(0, .ref (b + t0)), (1, .int a1)] → W p l e { frames := 3, cells := 0, slots := 0, locals := 65 } s m args below meth c H locs 0 0 (cl_Zi below args s dd b r M') (F0 m 0 ls []) := by
  have hx := C.1
  have hb := C.2.1
  have hlt := C.2.2.2.2.2.2.2.2.2.2
  have hRr := C.2.2.2.2.2.2.2.2.2.1
  intro M t0 a1 r M' hf H locs ls ht0 hw hl
  unfold f_X6_waterOf at hf
  refine lv_aload_n hx hb dX6_waterOf_0 rfl (lv_at hl 0 rfl) ?_
  refine lv_iload_n hx hb dX6_waterOf_1 rfl (lv_at hl 1 rfl) ?_
  refine lv_iconst (v := 3) hx hb dX6_waterOf_2 (by decide) ?_
  obtain ⟨v1, M2, e3, hf⟩ := cl_b2_e hf
  refine cr_Vi C hw (c_X6_asked hlt ht0 e3) cy_X6_asked vy_X6_asked ml_X6_335 (cl_lt ht0 (by decide)) (cl_e6 ht0) rfl rfl (As := [.int a1, .int 3]) rfl hl.1 rfl ⟨⟨Nat.le_of_ble_eq_true rfl, Nat.le_of_ble_eq_true rfl⟩, Nat.le_of_ble_eq_true rfl, Nat.le_of_ble_eq_true rfl, Nat.le_of_ble_eq_true rfl⟩ dX6_waterOf_3 (fun H locs hw => ?_)
  obtain ⟨rfl, rfl⟩ := cl_pair hf
  exact cr_reti C hw dX6_waterOf_6
set_option maxRecDepth 100000 in
theorem c_X6_waterOf {l : Launch} {dd : cl_D} {b : Nat} (hlt : l.stackTraces = false) {M : cl_M} {t0 : Nat} {a1 : Int32}  {r : Int32} {M' : cl_M} (ht0 : cl_sh dd t0 = 6) (h : f_X6_waterOf M t0 a1 = some (r, M')) : cl_Mi l dd b yX6_waterOf cX6_waterOf 2 (some .int) 3 65 [.ref (b + t0), .int a1] M r M' :=
  cl_of hlt (by decide) (Nat.le_of_ble_eq_true rfl) (fun p e s m below meth c ls C hw hl => k_X6_waterOf C M t0 a1 r M' h _ _ _ ht0 hw (lv_sub hl [0, 1] rfl))
theorem cy_X6_waterOf : cl_cy yX6_waterOf cX6_waterOf 2 (some .int) 1 := ⟨in_ClothesLineModel, cd_X6_waterOf, by decide +kernel, by decide +kernel, by decide +kernel⟩
theorem vy_X6_waterOf : cl_vy yX6_waterOf := ⟨im_X6_waterOf, se_X6_waterOf⟩
def f_X6_weightOf_17 (M : cl_M) (z0 : Int32) : Option (Int32 × cl_M) := some (z0, M)
set_option maxHeartbeats 4000000 in
set_option maxRecDepth 100000 in
theorem k_X6_weightOf_17 {p : Program} {l : Launch} {e : Env} {s : State} {m : MethodId} {args : Array Value} {below : List Frame} {meth : Method} {c : Code} {dd : cl_D} {b : Nat} (C : cl_C p l s m args meth c cX6_weightOf RX6 2 (some .int) dd b) : ∀ (M : cl_M) (z0 : Int32) (r : Int32) (M' : cl_M), f_X6_weightOf_17 M z0 = some (r, M') → ∀ (H : Heap) (locs : List Loc) (ls : Array Slot), cl_H dd b M s H locs → lv_has ls 2 [] → W p l e { frames := 2, cells := 0, slots := 0, locals := 43 } s m args below meth c H locs 0 0 (cl_Zi below args s dd b r M') (F0 m 17 ls [.int z0]) := by
  have hx := C.1
  have hb := C.2.1
  have hlt := C.2.2.2.2.2.2.2.2.2.2
  have hRr := C.2.2.2.2.2.2.2.2.2.1
  intro M z0 r M' hf H locs ls hw hl
  unfold f_X6_weightOf_17 at hf
  obtain ⟨rfl, rfl⟩ := cl_pair hf
  exact cr_reti C hw dX6_weightOf_17
def f_X6_weightOf (M : cl_M) (t0 : Nat) (a1 : Int32) : Option (Int32 × cl_M) := cl_b2 (f_X6_isGarment M t0 a1) (fun v1 M2 => if v1 = 0 then f_X6_weightOf_17 M2 0 else (f_X6_weight M2 t0 a1).bind (fun v5 => f_X6_weightOf_17 M2 v5))
set_option maxHeartbeats 4000000 in
set_option maxRecDepth 100000 in
theorem k_X6_weightOf {p : Program} {l : Launch} {e : Env} {s : State} {m : MethodId} {args : Array Value} {below : List Frame} {meth : Method} {c : Code} {dd : cl_D} {b : Nat} (C : cl_C p l s m args meth c cX6_weightOf RX6 2 (some .int) dd b) : ∀ (M : cl_M) (t0 : Nat) (a1 : Int32) (r : Int32) (M' : cl_M), f_X6_weightOf M t0 a1 = some (r, M') → ∀ (H : Heap) (locs : List Loc) (ls : Array Slot), cl_sh dd t0 = 6 → cl_H dd b M s H locs → lv_has ls 2 [(0, .ref (b + t0)), (1, .int a1)] → W p l e { frames := 2, cells := 0, slots := 0, locals := 43 } s m args below meth c H locs 0 0 (cl_Zi below args s dd b r M') (F0 m 0 ls []) := by
  have hx := C.1
  have hb := C.2.1
  have hlt := C.2.2.2.2.2.2.2.2.2.2
  have hRr := C.2.2.2.2.2.2.2.2.2.1
  intro M t0 a1 r M' hf H locs ls ht0 hw hl
  unfold f_X6_weightOf at hf
  refine lv_aload_n hx hb dX6_weightOf_0 rfl (lv_at hl 0 rfl) ?_
  refine lv_iload_n hx hb dX6_weightOf_1 rfl (lv_at hl 1 rfl) ?_
  obtain ⟨v1, M2, e3, hf⟩ := cl_b2_e hf
  refine cr_Vi C hw (c_X6_isGarment hlt ht0 e3) cy_X6_isGarment vy_X6_isGarment ml_X6_332 (cl_lt ht0 (by decide)) (cl_e6 ht0) rfl rfl (As := [.int a1]) rfl hl.1 rfl ⟨⟨Nat.le_of_ble_eq_true rfl, Nat.le_of_ble_eq_true rfl⟩, Nat.le_of_ble_eq_true rfl, Nat.le_of_ble_eq_true rfl, Nat.le_of_ble_eq_true rfl⟩ dX6_weightOf_2 (fun H locs hw => ?_)
  refine lv_if_eq (tgt := 16) hx hb dX6_weightOf_5 (by decide) (fun c4 => ?_) (fun c4 => ?_)
  · have hf := cl_yes c4 hf
    refine lv_iconst (v := 0) hx hb dX6_weightOf_16 (by decide) ?_
    exact k_X6_weightOf_17 C M2 0 _ _ hf _ _ _ hw (lv_sub hl [] rfl)
  · have hf := cl_no c4 hf
    refine lv_aload_n hx hb dX6_weightOf_8 rfl (lv_at hl 0 rfl) ?_
    refine lv_iload_n hx hb dX6_weightOf_9 rfl (lv_at hl 1 rfl) ?_
    obtain ⟨v5, e6, hf⟩ := cl_bind_e hf
    refine cr_Vi C hw (c_X6_weight hlt ht0 e6) cy_X6_weight vy_X6_weight ml_X6_103 (cl_lt ht0 (by decide)) (cl_e6 ht0) rfl rfl (As := [.int a1]) rfl hl.1 rfl ⟨⟨Nat.le_of_ble_eq_true rfl, Nat.le_of_ble_eq_true rfl⟩, Nat.le_of_ble_eq_true rfl, Nat.le_of_ble_eq_true rfl, Nat.le_of_ble_eq_true rfl⟩ dX6_weightOf_10 (fun H locs hw => ?_)
    refine lv_goto (tgt := 17) hx hb dX6_weightOf_13 (by decide) ?_
    exact k_X6_weightOf_17 C M2 v5 _ _ hf _ _ _ hw (lv_sub hl [] rfl)
set_option maxRecDepth 100000 in
theorem c_X6_weightOf {l : Launch} {dd : cl_D} {b : Nat} (hlt : l.stackTraces = false) {M : cl_M} {t0 : Nat} {a1 : Int32}  {r : Int32} {M' : cl_M} (ht0 : cl_sh dd t0 = 6) (h : f_X6_weightOf M t0 a1 = some (r, M')) : cl_Mi l dd b yX6_weightOf cX6_weightOf 2 (some .int) 2 43 [.ref (b + t0), .int a1] M r M' :=
  cl_of hlt (by decide) (Nat.le_of_ble_eq_true rfl) (fun p e s m below meth c ls C hw hl => k_X6_weightOf C M t0 a1 r M' h _ _ _ ht0 hw (lv_sub hl [0, 1] rfl))
theorem cy_X6_weightOf : cl_cy yX6_weightOf cX6_weightOf 2 (some .int) 1 := ⟨in_ClothesLineModel, cd_X6_weightOf, by decide +kernel, by decide +kernel, by decide +kernel⟩
theorem vy_X6_weightOf : cl_vy yX6_weightOf := ⟨im_X6_weightOf, se_X6_weightOf⟩
def f_X6_smellOf (M : cl_M) (t0 : Nat) (a1 : Int32) : Option (Int32 × cl_M) := cl_b2 (f_X6_asked M t0 a1 4) (fun v1 M2 => some (v1, M2))
set_option maxHeartbeats 4000000 in
set_option maxRecDepth 100000 in
theorem k_X6_smellOf {p : Program} {l : Launch} {e : Env} {s : State} {m : MethodId} {args : Array Value} {below : List Frame} {meth : Method} {c : Code} {dd : cl_D} {b : Nat} (C : cl_C p l s m args meth c cX6_smellOf RX6 2 (some .int) dd b) : ∀ (M : cl_M) (t0 : Nat) (a1 : Int32) (r : Int32) (M' : cl_M), f_X6_smellOf M t0 a1 = some (r, M') → ∀ (H : Heap) (locs : List Loc) (ls : Array Slot), cl_sh dd t0 = 6 → cl_H dd b M s H locs → lv_has ls 2 [(0, .ref (b + t0)), (1, .int a1)] → W p l e { frames := 3, cells := 0, slots := 0, locals := 65 } s m args below meth c H locs 0 0 (cl_Zi below args s dd b r M') (F0 m 0 ls []) := by
  have hx := C.1
  have hb := C.2.1
  have hlt := C.2.2.2.2.2.2.2.2.2.2
  have hRr := C.2.2.2.2.2.2.2.2.2.1
  intro M t0 a1 r M' hf H locs ls ht0 hw hl
  unfold f_X6_smellOf at hf
  refine lv_aload_n hx hb dX6_smellOf_0 rfl (lv_at hl 0 rfl) ?_
  refine lv_iload_n hx hb dX6_smellOf_1 rfl (lv_at hl 1 rfl) ?_
  refine lv_iconst (v := 4) hx hb dX6_smellOf_2 (by decide) ?_
  obtain ⟨v1, M2, e3, hf⟩ := cl_b2_e hf
  refine cr_Vi C hw (c_X6_asked hlt ht0 e3) cy_X6_asked vy_X6_asked ml_X6_335 (cl_lt ht0 (by decide)) (cl_e6 ht0) rfl rfl (As := [.int a1, .int 4]) rfl hl.1 rfl ⟨⟨Nat.le_of_ble_eq_true rfl, Nat.le_of_ble_eq_true rfl⟩, Nat.le_of_ble_eq_true rfl, Nat.le_of_ble_eq_true rfl, Nat.le_of_ble_eq_true rfl⟩ dX6_smellOf_3 (fun H locs hw => ?_)
  obtain ⟨rfl, rfl⟩ := cl_pair hf
  exact cr_reti C hw dX6_smellOf_6
set_option maxRecDepth 100000 in
theorem c_X6_smellOf {l : Launch} {dd : cl_D} {b : Nat} (hlt : l.stackTraces = false) {M : cl_M} {t0 : Nat} {a1 : Int32}  {r : Int32} {M' : cl_M} (ht0 : cl_sh dd t0 = 6) (h : f_X6_smellOf M t0 a1 = some (r, M')) : cl_Mi l dd b yX6_smellOf cX6_smellOf 2 (some .int) 3 65 [.ref (b + t0), .int a1] M r M' :=
  cl_of hlt (by decide) (Nat.le_of_ble_eq_true rfl) (fun p e s m below meth c ls C hw hl => k_X6_smellOf C M t0 a1 r M' h _ _ _ ht0 hw (lv_sub hl [0, 1] rfl))
theorem cy_X6_smellOf : cl_cy yX6_smellOf cX6_smellOf 2 (some .int) 1 := ⟨in_ClothesLineModel, cd_X6_smellOf, by decide +kernel, by decide +kernel, by decide +kernel⟩
theorem vy_X6_smellOf : cl_vy yX6_smellOf := ⟨im_X6_smellOf, se_X6_smellOf⟩
def f_X6_spotOf (M : cl_M) (t0 : Nat) (a1 : Int32) : Option (Int32 × cl_M) := cl_b2 (f_X6_asked M t0 a1 7) (fun v1 M2 => some (v1, M2))
set_option maxHeartbeats 4000000 in
set_option maxRecDepth 100000 in
theorem k_X6_spotOf {p : Program} {l : Launch} {e : Env} {s : State} {m : MethodId} {args : Array Value} {below : List Frame} {meth : Method} {c : Code} {dd : cl_D} {b : Nat} (C : cl_C p l s m args meth c cX6_spotOf RX6 2 (some .int) dd b) : ∀ (M : cl_M) (t0 : Nat) (a1 : Int32) (r : Int32) (M' : cl_M), f_X6_spotOf M t0 a1 = some (r, M') → ∀ (H : Heap) (locs : List Loc) (ls : Array Slot), cl_sh dd t0 = 6 → cl_H dd b M s H locs → lv_has ls 2 [(0, .ref (b + t0)), (1, .int a1)] → W p l e { frames := 3, cells := 0, slots := 0, locals := 65 } s m args below meth c H locs 0 0 (cl_Zi below args s dd b r M') (F0 m 0 ls []) := by
  have hx := C.1
  have hb := C.2.1
  have hlt := C.2.2.2.2.2.2.2.2.2.2
  have hRr := C.2.2.2.2.2.2.2.2.2.1
  intro M t0 a1 r M' hf H locs ls ht0 hw hl
  unfold f_X6_spotOf at hf
  refine lv_aload_n hx hb dX6_spotOf_0 rfl (lv_at hl 0 rfl) ?_
  refine lv_iload_n hx hb dX6_spotOf_1 rfl (lv_at hl 1 rfl) ?_
  refine lv_bipush (v := 7) hx hb dX6_spotOf_2 (by decide) ?_
  obtain ⟨v1, M2, e3, hf⟩ := cl_b2_e hf
  refine cr_Vi C hw (c_X6_asked hlt ht0 e3) cy_X6_asked vy_X6_asked ml_X6_335 (cl_lt ht0 (by decide)) (cl_e6 ht0) rfl rfl (As := [.int a1, .int 7]) rfl hl.1 rfl ⟨⟨Nat.le_of_ble_eq_true rfl, Nat.le_of_ble_eq_true rfl⟩, Nat.le_of_ble_eq_true rfl, Nat.le_of_ble_eq_true rfl, Nat.le_of_ble_eq_true rfl⟩ dX6_spotOf_4 (fun H locs hw => ?_)
  obtain ⟨rfl, rfl⟩ := cl_pair hf
  exact cr_reti C hw dX6_spotOf_7
set_option maxRecDepth 100000 in
theorem c_X6_spotOf {l : Launch} {dd : cl_D} {b : Nat} (hlt : l.stackTraces = false) {M : cl_M} {t0 : Nat} {a1 : Int32}  {r : Int32} {M' : cl_M} (ht0 : cl_sh dd t0 = 6) (h : f_X6_spotOf M t0 a1 = some (r, M')) : cl_Mi l dd b yX6_spotOf cX6_spotOf 2 (some .int) 3 65 [.ref (b + t0), .int a1] M r M' :=
  cl_of hlt (by decide) (Nat.le_of_ble_eq_true rfl) (fun p e s m below meth c ls C hw hl => k_X6_spotOf C M t0 a1 r M' h _ _ _ ht0 hw (lv_sub hl [0, 1] rfl))
theorem cy_X6_spotOf : cl_cy yX6_spotOf cX6_spotOf 2 (some .int) 1 := ⟨in_ClothesLineModel, cd_X6_spotOf, by decide +kernel, by decide +kernel, by decide +kernel⟩
theorem vy_X6_spotOf : cl_vy yX6_spotOf := ⟨im_X6_spotOf, se_X6_spotOf⟩
def f_X6_woodenOf (M : cl_M) (t0 : Nat) (a1 : Int32) : Option (Int32 × cl_M) := cl_b2 (f_X6_asked M t0 a1 8) (fun v1 M2 => some (v1, M2))
set_option maxHeartbeats 4000000 in
set_option maxRecDepth 100000 in
theorem k_X6_woodenOf {p : Program} {l : Launch} {e : Env} {s : State} {m : MethodId} {args : Array Value} {below : List Frame} {meth : Method} {c : Code} {dd : cl_D} {b : Nat} (C : cl_C p l s m args meth c cX6_woodenOf RX6 2 (some .int) dd b) : ∀ (M : cl_M) (t0 : Nat) (a1 : Int32) (r : Int32) (M' : cl_M), f_X6_woodenOf M t0 a1 = some (r, M') → ∀ (H : Heap) (locs : List Loc) (ls : Array Slot), cl_sh dd t0 = 6 → cl_H dd b M s H locs → lv_has ls 2 [(0, .ref (b + t0)), (1, .int a1)] → W p l e { frames := 3, cells := 0, slots := 0, locals := 65 } s m args below meth c H locs 0 0 (cl_Zi below args s dd b r M') (F0 m 0 ls []) := by
  have hx := C.1
  have hb := C.2.1
  have hlt := C.2.2.2.2.2.2.2.2.2.2
  have hRr := C.2.2.2.2.2.2.2.2.2.1
  intro M t0 a1 r M' hf H locs ls ht0 hw hl
  unfold f_X6_woodenOf at hf
  refine lv_aload_n hx hb dX6_woodenOf_0 rfl (lv_at hl 0 rfl) ?_
  refine lv_iload_n hx hb dX6_woodenOf_1 rfl (lv_at hl 1 rfl) ?_
  refine lv_bipush (v := 8) hx hb dX6_woodenOf_2 (by decide) ?_
  obtain ⟨v1, M2, e3, hf⟩ := cl_b2_e hf
  refine cr_Vi C hw (c_X6_asked hlt ht0 e3) cy_X6_asked vy_X6_asked ml_X6_335 (cl_lt ht0 (by decide)) (cl_e6 ht0) rfl rfl (As := [.int a1, .int 8]) rfl hl.1 rfl ⟨⟨Nat.le_of_ble_eq_true rfl, Nat.le_of_ble_eq_true rfl⟩, Nat.le_of_ble_eq_true rfl, Nat.le_of_ble_eq_true rfl, Nat.le_of_ble_eq_true rfl⟩ dX6_woodenOf_4 (fun H locs hw => ?_)
  obtain ⟨rfl, rfl⟩ := cl_pair hf
  exact cr_reti C hw dX6_woodenOf_7
set_option maxRecDepth 100000 in
theorem c_X6_woodenOf {l : Launch} {dd : cl_D} {b : Nat} (hlt : l.stackTraces = false) {M : cl_M} {t0 : Nat} {a1 : Int32}  {r : Int32} {M' : cl_M} (ht0 : cl_sh dd t0 = 6) (h : f_X6_woodenOf M t0 a1 = some (r, M')) : cl_Mi l dd b yX6_woodenOf cX6_woodenOf 2 (some .int) 3 65 [.ref (b + t0), .int a1] M r M' :=
  cl_of hlt (by decide) (Nat.le_of_ble_eq_true rfl) (fun p e s m below meth c ls C hw hl => k_X6_woodenOf C M t0 a1 r M' h _ _ _ ht0 hw (lv_sub hl [0, 1] rfl))
theorem cy_X6_woodenOf : cl_cy yX6_woodenOf cX6_woodenOf 2 (some .int) 1 := ⟨in_ClothesLineModel, cd_X6_woodenOf, by decide +kernel, by decide +kernel, by decide +kernel⟩
theorem vy_X6_woodenOf : cl_vy yX6_woodenOf := ⟨im_X6_woodenOf, se_X6_woodenOf⟩
def f_X6_steelOf (M : cl_M) (t0 : Nat) (a1 : Int32) : Option (Int32 × cl_M) := cl_b2 (f_X6_asked M t0 a1 9) (fun v1 M2 => some (v1, M2))
set_option maxHeartbeats 4000000 in
set_option maxRecDepth 100000 in
theorem k_X6_steelOf {p : Program} {l : Launch} {e : Env} {s : State} {m : MethodId} {args : Array Value} {below : List Frame} {meth : Method} {c : Code} {dd : cl_D} {b : Nat} (C : cl_C p l s m args meth c cX6_steelOf RX6 2 (some .int) dd b) : ∀ (M : cl_M) (t0 : Nat) (a1 : Int32) (r : Int32) (M' : cl_M), f_X6_steelOf M t0 a1 = some (r, M') → ∀ (H : Heap) (locs : List Loc) (ls : Array Slot), cl_sh dd t0 = 6 → cl_H dd b M s H locs → lv_has ls 2 [(0, .ref (b + t0)), (1, .int a1)] → W p l e { frames := 3, cells := 0, slots := 0, locals := 65 } s m args below meth c H locs 0 0 (cl_Zi below args s dd b r M') (F0 m 0 ls []) := by
  have hx := C.1
  have hb := C.2.1
  have hlt := C.2.2.2.2.2.2.2.2.2.2
  have hRr := C.2.2.2.2.2.2.2.2.2.1
  intro M t0 a1 r M' hf H locs ls ht0 hw hl
  unfold f_X6_steelOf at hf
  refine lv_aload_n hx hb dX6_steelOf_0 rfl (lv_at hl 0 rfl) ?_
  refine lv_iload_n hx hb dX6_steelOf_1 rfl (lv_at hl 1 rfl) ?_
  refine lv_bipush (v := 9) hx hb dX6_steelOf_2 (by decide) ?_
  obtain ⟨v1, M2, e3, hf⟩ := cl_b2_e hf
  refine cr_Vi C hw (c_X6_asked hlt ht0 e3) cy_X6_asked vy_X6_asked ml_X6_335 (cl_lt ht0 (by decide)) (cl_e6 ht0) rfl rfl (As := [.int a1, .int 9]) rfl hl.1 rfl ⟨⟨Nat.le_of_ble_eq_true rfl, Nat.le_of_ble_eq_true rfl⟩, Nat.le_of_ble_eq_true rfl, Nat.le_of_ble_eq_true rfl, Nat.le_of_ble_eq_true rfl⟩ dX6_steelOf_4 (fun H locs hw => ?_)
  obtain ⟨rfl, rfl⟩ := cl_pair hf
  exact cr_reti C hw dX6_steelOf_7
set_option maxRecDepth 100000 in
theorem c_X6_steelOf {l : Launch} {dd : cl_D} {b : Nat} (hlt : l.stackTraces = false) {M : cl_M} {t0 : Nat} {a1 : Int32}  {r : Int32} {M' : cl_M} (ht0 : cl_sh dd t0 = 6) (h : f_X6_steelOf M t0 a1 = some (r, M')) : cl_Mi l dd b yX6_steelOf cX6_steelOf 2 (some .int) 3 65 [.ref (b + t0), .int a1] M r M' :=
  cl_of hlt (by decide) (Nat.le_of_ble_eq_true rfl) (fun p e s m below meth c ls C hw hl => k_X6_steelOf C M t0 a1 r M' h _ _ _ ht0 hw (lv_sub hl [0, 1] rfl))
theorem cy_X6_steelOf : cl_cy yX6_steelOf cX6_steelOf 2 (some .int) 1 := ⟨in_ClothesLineModel, cd_X6_steelOf, by decide +kernel, by decide +kernel, by decide +kernel⟩
theorem vy_X6_steelOf : cl_vy yX6_steelOf := ⟨im_X6_steelOf, se_X6_steelOf⟩
def f_X6_holdOf_17 (M : cl_M) (z0 : Int32) : Option (Int32 × cl_M) := some (z0, M)
set_option maxHeartbeats 4000000 in
set_option maxRecDepth 100000 in
theorem k_X6_holdOf_17 {p : Program} {l : Launch} {e : Env} {s : State} {m : MethodId} {args : Array Value} {below : List Frame} {meth : Method} {c : Code} {dd : cl_D} {b : Nat} (C : cl_C p l s m args meth c cX6_holdOf RX6 2 (some .int) dd b) : ∀ (M : cl_M) (z0 : Int32) (r : Int32) (M' : cl_M), f_X6_holdOf_17 M z0 = some (r, M') → ∀ (H : Heap) (locs : List Loc) (ls : Array Slot), cl_H dd b M s H locs → lv_has ls 2 [] → W p l e { frames := 2, cells := 0, slots := 0, locals := 43 } s m args below meth c H locs 0 0 (cl_Zi below args s dd b r M') (F0 m 17 ls [.int z0]) := by
  have hx := C.1
  have hb := C.2.1
  have hlt := C.2.2.2.2.2.2.2.2.2.2
  have hRr := C.2.2.2.2.2.2.2.2.2.1
  intro M z0 r M' hf H locs ls hw hl
  unfold f_X6_holdOf_17 at hf
  obtain ⟨rfl, rfl⟩ := cl_pair hf
  exact cr_reti C hw dX6_holdOf_17
def f_X6_holdOf (M : cl_M) (t0 : Nat) (a1 : Int32) : Option (Int32 × cl_M) := cl_b2 (f_X6_isGarment M t0 a1) (fun v1 M2 => if v1 = 0 then f_X6_holdOf_17 M2 0 else (f_X6_hold M2 t0 a1).bind (fun v5 => f_X6_holdOf_17 M2 v5))
set_option maxHeartbeats 4000000 in
set_option maxRecDepth 100000 in
theorem k_X6_holdOf {p : Program} {l : Launch} {e : Env} {s : State} {m : MethodId} {args : Array Value} {below : List Frame} {meth : Method} {c : Code} {dd : cl_D} {b : Nat} (C : cl_C p l s m args meth c cX6_holdOf RX6 2 (some .int) dd b) : ∀ (M : cl_M) (t0 : Nat) (a1 : Int32) (r : Int32) (M' : cl_M), f_X6_holdOf M t0 a1 = some (r, M') → ∀ (H : Heap) (locs : List Loc) (ls : Array Slot), cl_sh dd t0 = 6 → cl_H dd b M s H locs → lv_has ls 2 [(0, .ref (b + t0)), (1, .int a1)] → W p l e { frames := 2, cells := 0, slots := 0, locals := 43 } s m args below meth c H locs 0 0 (cl_Zi below args s dd b r M') (F0 m 0 ls []) := by
  have hx := C.1
  have hb := C.2.1
  have hlt := C.2.2.2.2.2.2.2.2.2.2
  have hRr := C.2.2.2.2.2.2.2.2.2.1
  intro M t0 a1 r M' hf H locs ls ht0 hw hl
  unfold f_X6_holdOf at hf
  refine lv_aload_n hx hb dX6_holdOf_0 rfl (lv_at hl 0 rfl) ?_
  refine lv_iload_n hx hb dX6_holdOf_1 rfl (lv_at hl 1 rfl) ?_
  obtain ⟨v1, M2, e3, hf⟩ := cl_b2_e hf
  refine cr_Vi C hw (c_X6_isGarment hlt ht0 e3) cy_X6_isGarment vy_X6_isGarment ml_X6_332 (cl_lt ht0 (by decide)) (cl_e6 ht0) rfl rfl (As := [.int a1]) rfl hl.1 rfl ⟨⟨Nat.le_of_ble_eq_true rfl, Nat.le_of_ble_eq_true rfl⟩, Nat.le_of_ble_eq_true rfl, Nat.le_of_ble_eq_true rfl, Nat.le_of_ble_eq_true rfl⟩ dX6_holdOf_2 (fun H locs hw => ?_)
  refine lv_if_eq (tgt := 16) hx hb dX6_holdOf_5 (by decide) (fun c4 => ?_) (fun c4 => ?_)
  · have hf := cl_yes c4 hf
    refine lv_iconst (v := 0) hx hb dX6_holdOf_16 (by decide) ?_
    exact k_X6_holdOf_17 C M2 0 _ _ hf _ _ _ hw (lv_sub hl [] rfl)
  · have hf := cl_no c4 hf
    refine lv_aload_n hx hb dX6_holdOf_8 rfl (lv_at hl 0 rfl) ?_
    refine lv_iload_n hx hb dX6_holdOf_9 rfl (lv_at hl 1 rfl) ?_
    obtain ⟨v5, e6, hf⟩ := cl_bind_e hf
    refine cr_Vi C hw (c_X6_hold hlt ht0 e6) cy_X6_hold vy_X6_hold ml_X6_129 (cl_lt ht0 (by decide)) (cl_e6 ht0) rfl rfl (As := [.int a1]) rfl hl.1 rfl ⟨⟨Nat.le_of_ble_eq_true rfl, Nat.le_of_ble_eq_true rfl⟩, Nat.le_of_ble_eq_true rfl, Nat.le_of_ble_eq_true rfl, Nat.le_of_ble_eq_true rfl⟩ dX6_holdOf_10 (fun H locs hw => ?_)
    refine lv_goto (tgt := 17) hx hb dX6_holdOf_13 (by decide) ?_
    exact k_X6_holdOf_17 C M2 v5 _ _ hf _ _ _ hw (lv_sub hl [] rfl)
set_option maxRecDepth 100000 in
theorem c_X6_holdOf {l : Launch} {dd : cl_D} {b : Nat} (hlt : l.stackTraces = false) {M : cl_M} {t0 : Nat} {a1 : Int32}  {r : Int32} {M' : cl_M} (ht0 : cl_sh dd t0 = 6) (h : f_X6_holdOf M t0 a1 = some (r, M')) : cl_Mi l dd b yX6_holdOf cX6_holdOf 2 (some .int) 2 43 [.ref (b + t0), .int a1] M r M' :=
  cl_of hlt (by decide) (Nat.le_of_ble_eq_true rfl) (fun p e s m below meth c ls C hw hl => k_X6_holdOf C M t0 a1 r M' h _ _ _ ht0 hw (lv_sub hl [0, 1] rfl))
theorem cy_X6_holdOf : cl_cy yX6_holdOf cX6_holdOf 2 (some .int) 1 := ⟨in_ClothesLineModel, cd_X6_holdOf, by decide +kernel, by decide +kernel, by decide +kernel⟩
theorem vy_X6_holdOf : cl_vy yX6_holdOf := ⟨im_X6_holdOf, se_X6_holdOf⟩
def f_X6_fallsOf (M : cl_M) (t0 : Nat) (a1 : Int32) : Option (Int32 × cl_M) := cl_b2 (f_X6_asked M t0 a1 10) (fun v1 M2 => some (v1, M2))
set_option maxHeartbeats 4000000 in
set_option maxRecDepth 100000 in
theorem k_X6_fallsOf {p : Program} {l : Launch} {e : Env} {s : State} {m : MethodId} {args : Array Value} {below : List Frame} {meth : Method} {c : Code} {dd : cl_D} {b : Nat} (C : cl_C p l s m args meth c cX6_fallsOf RX6 2 (some .int) dd b) : ∀ (M : cl_M) (t0 : Nat) (a1 : Int32) (r : Int32) (M' : cl_M), f_X6_fallsOf M t0 a1 = some (r, M') → ∀ (H : Heap) (locs : List Loc) (ls : Array Slot), cl_sh dd t0 = 6 → cl_H dd b M s H locs → lv_has ls 2 [(0, .ref (b + t0)), (1, .int a1)] → W p l e { frames := 3, cells := 0, slots := 0, locals := 65 } s m args below meth c H locs 0 0 (cl_Zi below args s dd b r M') (F0 m 0 ls []) := by
  have hx := C.1
  have hb := C.2.1
  have hlt := C.2.2.2.2.2.2.2.2.2.2
  have hRr := C.2.2.2.2.2.2.2.2.2.1
  intro M t0 a1 r M' hf H locs ls ht0 hw hl
  unfold f_X6_fallsOf at hf
  refine lv_aload_n hx hb dX6_fallsOf_0 rfl (lv_at hl 0 rfl) ?_
  refine lv_iload_n hx hb dX6_fallsOf_1 rfl (lv_at hl 1 rfl) ?_
  refine lv_bipush (v := 10) hx hb dX6_fallsOf_2 (by decide) ?_
  obtain ⟨v1, M2, e3, hf⟩ := cl_b2_e hf
  refine cr_Vi C hw (c_X6_asked hlt ht0 e3) cy_X6_asked vy_X6_asked ml_X6_335 (cl_lt ht0 (by decide)) (cl_e6 ht0) rfl rfl (As := [.int a1, .int 10]) rfl hl.1 rfl ⟨⟨Nat.le_of_ble_eq_true rfl, Nat.le_of_ble_eq_true rfl⟩, Nat.le_of_ble_eq_true rfl, Nat.le_of_ble_eq_true rfl, Nat.le_of_ble_eq_true rfl⟩ dX6_fallsOf_4 (fun H locs hw => ?_)
  obtain ⟨rfl, rfl⟩ := cl_pair hf
  exact cr_reti C hw dX6_fallsOf_7
set_option maxRecDepth 100000 in
theorem c_X6_fallsOf {l : Launch} {dd : cl_D} {b : Nat} (hlt : l.stackTraces = false) {M : cl_M} {t0 : Nat} {a1 : Int32}  {r : Int32} {M' : cl_M} (ht0 : cl_sh dd t0 = 6) (h : f_X6_fallsOf M t0 a1 = some (r, M')) : cl_Mi l dd b yX6_fallsOf cX6_fallsOf 2 (some .int) 3 65 [.ref (b + t0), .int a1] M r M' :=
  cl_of hlt (by decide) (Nat.le_of_ble_eq_true rfl) (fun p e s m below meth c ls C hw hl => k_X6_fallsOf C M t0 a1 r M' h _ _ _ ht0 hw (lv_sub hl [0, 1] rfl))
theorem cy_X6_fallsOf : cl_cy yX6_fallsOf cX6_fallsOf 2 (some .int) 1 := ⟨in_ClothesLineModel, cd_X6_fallsOf, by decide +kernel, by decide +kernel, by decide +kernel⟩
theorem vy_X6_fallsOf : cl_vy yX6_fallsOf := ⟨im_X6_fallsOf, se_X6_fallsOf⟩
def f_X6_isDirty_15 (M : cl_M) (z0 : Int32) : Option (Int32 × cl_M) := if cl_bz z0 = true then some (z0, M) else none
set_option maxHeartbeats 4000000 in
set_option maxRecDepth 100000 in
theorem k_X6_isDirty_15 {p : Program} {l : Launch} {e : Env} {s : State} {m : MethodId} {args : Array Value} {below : List Frame} {meth : Method} {c : Code} {dd : cl_D} {b : Nat} (C : cl_C p l s m args meth c cX6_isDirty RX6 2 (some .boolean) dd b) : ∀ (M : cl_M) (z0 : Int32) (r : Int32) (M' : cl_M), f_X6_isDirty_15 M z0 = some (r, M') → ∀ (H : Heap) (locs : List Loc) (ls : Array Slot), cl_H dd b M s H locs → lv_has ls 2 [] → W p l e { frames := 3, cells := 0, slots := 0, locals := 65 } s m args below meth c H locs 0 0 (cl_Zi below args s dd b r M') (F0 m 15 ls [.int z0]) := by
  have hx := C.1
  have hb := C.2.1
  have hlt := C.2.2.2.2.2.2.2.2.2.2
  have hRr := C.2.2.2.2.2.2.2.2.2.1
  intro M z0 r M' hf H locs ls hw hl
  unfold f_X6_isDirty_15 at hf
  obtain ⟨q5, hf⟩ := cl_grd hf
  obtain ⟨rfl, rfl⟩ := cl_pair hf
  exact cr_retz C hw q5 dX6_isDirty_15
def f_X6_isDirty (M : cl_M) (t0 : Nat) (a1 : Int32) : Option (Int32 × cl_M) := cl_b2 (f_X6_asked M t0 a1 5) (fun v1 M2 => if v1 = 1 then f_X6_isDirty_15 M2 1 else f_X6_isDirty_15 M2 0)
set_option maxHeartbeats 4000000 in
set_option maxRecDepth 100000 in
theorem k_X6_isDirty {p : Program} {l : Launch} {e : Env} {s : State} {m : MethodId} {args : Array Value} {below : List Frame} {meth : Method} {c : Code} {dd : cl_D} {b : Nat} (C : cl_C p l s m args meth c cX6_isDirty RX6 2 (some .boolean) dd b) : ∀ (M : cl_M) (t0 : Nat) (a1 : Int32) (r : Int32) (M' : cl_M), f_X6_isDirty M t0 a1 = some (r, M') → ∀ (H : Heap) (locs : List Loc) (ls : Array Slot), cl_sh dd t0 = 6 → cl_H dd b M s H locs → lv_has ls 2 [(0, .ref (b + t0)), (1, .int a1)] → W p l e { frames := 3, cells := 0, slots := 0, locals := 65 } s m args below meth c H locs 0 0 (cl_Zi below args s dd b r M') (F0 m 0 ls []) := by
  have hx := C.1
  have hb := C.2.1
  have hlt := C.2.2.2.2.2.2.2.2.2.2
  have hRr := C.2.2.2.2.2.2.2.2.2.1
  intro M t0 a1 r M' hf H locs ls ht0 hw hl
  unfold f_X6_isDirty at hf
  refine lv_aload_n hx hb dX6_isDirty_0 rfl (lv_at hl 0 rfl) ?_
  refine lv_iload_n hx hb dX6_isDirty_1 rfl (lv_at hl 1 rfl) ?_
  refine lv_iconst (v := 5) hx hb dX6_isDirty_2 (by decide) ?_
  obtain ⟨v1, M2, e3, hf⟩ := cl_b2_e hf
  refine cr_Vi C hw (c_X6_asked hlt ht0 e3) cy_X6_asked vy_X6_asked ml_X6_335 (cl_lt ht0 (by decide)) (cl_e6 ht0) rfl rfl (As := [.int a1, .int 5]) rfl hl.1 rfl ⟨⟨Nat.le_of_ble_eq_true rfl, Nat.le_of_ble_eq_true rfl⟩, Nat.le_of_ble_eq_true rfl, Nat.le_of_ble_eq_true rfl, Nat.le_of_ble_eq_true rfl⟩ dX6_isDirty_3 (fun H locs hw => ?_)
  refine lv_iconst (v := 1) hx hb dX6_isDirty_6 (by decide) ?_
  refine lv_icmp_ne (tgt := 14) hx hb dX6_isDirty_7 (by decide) (fun c4 => ?_) (fun c4 => ?_)
  · have hf := cl_no c4 hf
    refine lv_iconst (v := 0) hx hb dX6_isDirty_14 (by decide) ?_
    exact k_X6_isDirty_15 C M2 0 _ _ hf _ _ _ hw (lv_sub hl [] rfl)
  · have hf := cl_yes c4 hf
    refine lv_iconst (v := 1) hx hb dX6_isDirty_10 (by decide) ?_
    refine lv_goto (tgt := 15) hx hb dX6_isDirty_11 (by decide) ?_
    exact k_X6_isDirty_15 C M2 1 _ _ hf _ _ _ hw (lv_sub hl [] rfl)
set_option maxRecDepth 100000 in
theorem c_X6_isDirty {l : Launch} {dd : cl_D} {b : Nat} (hlt : l.stackTraces = false) {M : cl_M} {t0 : Nat} {a1 : Int32}  {r : Int32} {M' : cl_M} (ht0 : cl_sh dd t0 = 6) (h : f_X6_isDirty M t0 a1 = some (r, M')) : cl_Mi l dd b yX6_isDirty cX6_isDirty 2 (some .boolean) 3 65 [.ref (b + t0), .int a1] M r M' :=
  cl_of hlt (by decide) (Nat.le_of_ble_eq_true rfl) (fun p e s m below meth c ls C hw hl => k_X6_isDirty C M t0 a1 r M' h _ _ _ ht0 hw (lv_sub hl [0, 1] rfl))
theorem cy_X6_isDirty : cl_cy yX6_isDirty cX6_isDirty 2 (some .boolean) 1 := ⟨in_ClothesLineModel, cd_X6_isDirty, by decide +kernel, by decide +kernel, by decide +kernel⟩
theorem vy_X6_isDirty : cl_vy yX6_isDirty := ⟨im_X6_isDirty, se_X6_isDirty⟩
def f_X6_garmentsIn_28 (M : cl_M) (z0 : Int32) : Option (Int32 × cl_M) := some (z0, M)
set_option maxHeartbeats 4000000 in
set_option maxRecDepth 100000 in
theorem k_X6_garmentsIn_28 {p : Program} {l : Launch} {e : Env} {s : State} {m : MethodId} {args : Array Value} {below : List Frame} {meth : Method} {c : Code} {dd : cl_D} {b : Nat} (C : cl_C p l s m args meth c cX6_garmentsIn RX6 2 (some .int) dd b) : ∀ (M : cl_M) (z0 : Int32) (r : Int32) (M' : cl_M), f_X6_garmentsIn_28 M z0 = some (r, M') → ∀ (H : Heap) (locs : List Loc) (ls : Array Slot), cl_H dd b M s H locs → lv_has ls 2 [] → W p l e { frames := 3, cells := 0, slots := 0, locals := 67 } s m args below meth c H locs 0 0 (cl_Zi below args s dd b r M') (F0 m 28 ls [.int z0]) := by
  have hx := C.1
  have hb := C.2.1
  have hlt := C.2.2.2.2.2.2.2.2.2.2
  have hRr := C.2.2.2.2.2.2.2.2.2.1
  intro M z0 r M' hf H locs ls hw hl
  unfold f_X6_garmentsIn_28 at hf
  obtain ⟨rfl, rfl⟩ := cl_pair hf
  exact cr_reti C hw dX6_garmentsIn_28
def f_X6_garmentsIn (M : cl_M) (t0 : Nat) (a1 : Int32) : Option (Int32 × cl_M) := cl_let (cl_ms M t0 4 0) (fun M1 => (f_X6_inRange M1 a1 0 2).bind (fun v2 => cl_b2 (f_X6_fails M1 t0 v2 1) (fun v4 M5 => if v4 = 0 then (f_X6_setIn M5 t0 a1).bind (fun v8 => f_X6_garmentsIn_28 M5 v8) else f_X6_garmentsIn_28 M5 0)))
set_option maxHeartbeats 4000000 in
set_option maxRecDepth 100000 in
theorem k_X6_garmentsIn {p : Program} {l : Launch} {e : Env} {s : State} {m : MethodId} {args : Array Value} {below : List Frame} {meth : Method} {c : Code} {dd : cl_D} {b : Nat} (C : cl_C p l s m args meth c cX6_garmentsIn RX6 2 (some .int) dd b) : ∀ (M : cl_M) (t0 : Nat) (a1 : Int32) (r : Int32) (M' : cl_M), f_X6_garmentsIn M t0 a1 = some (r, M') → ∀ (H : Heap) (locs : List Loc) (ls : Array Slot), cl_sh dd t0 = 6 → cl_H dd b M s H locs → lv_has ls 2 [(0, .ref (b + t0)), (1, .int a1)] → W p l e { frames := 3, cells := 0, slots := 0, locals := 67 } s m args below meth c H locs 0 0 (cl_Zi below args s dd b r M') (F0 m 0 ls []) := by
  have hx := C.1
  have hb := C.2.1
  have hlt := C.2.2.2.2.2.2.2.2.2.2
  have hRr := C.2.2.2.2.2.2.2.2.2.1
  intro M t0 a1 r M' hf H locs ls ht0 hw hl
  unfold f_X6_garmentsIn at hf
  refine lv_aload_n hx hb dX6_garmentsIn_0 rfl (lv_at hl 0 rfl) ?_
  refine lv_iconst (v := 0) hx hb dX6_garmentsIn_1 (by decide) ?_
  obtain ⟨M1, eM1, hf⟩ := cl_let_e hf
  refine fp_X6_60 C hw ht0 eM1 dX6_garmentsIn_2 (fun H locs hw => ?_)
  refine lv_aload_n hx hb dX6_garmentsIn_5 rfl (lv_at hl 0 rfl) ?_
  refine lv_iload_n hx hb dX6_garmentsIn_6 rfl (lv_at hl 1 rfl) ?_
  refine lv_iconst (v := 0) hx hb dX6_garmentsIn_7 (by decide) ?_
  refine lv_iconst (v := 2) hx hb dX6_garmentsIn_8 (by decide) ?_
  obtain ⟨v2, e3, hf⟩ := cl_bind_e hf
  refine cr_Si C hw (c_X6_inRange hlt e3) cy_X6_inRange st_X6_inRange ml_X6_63 (As := [.int a1, .int 0, .int 2]) rfl hl.1 rfl ⟨⟨Nat.le_of_ble_eq_true rfl, Nat.le_of_ble_eq_true rfl⟩, Nat.le_of_ble_eq_true rfl, Nat.le_of_ble_eq_true rfl, Nat.le_of_ble_eq_true rfl⟩ dX6_garmentsIn_9 (fun H locs hw => ?_)
  refine lv_iconst (v := 1) hx hb dX6_garmentsIn_12 (by decide) ?_
  obtain ⟨v4, M5, e6, hf⟩ := cl_b2_e hf
  refine cr_Vi C hw (c_X6_fails hlt ht0 e6) cy_X6_fails vy_X6_fails ml_X6_313 (cl_lt ht0 (by decide)) (cl_e6 ht0) rfl rfl (As := [.int v2, .int 1]) rfl hl.1 rfl ⟨⟨Nat.le_of_ble_eq_true rfl, Nat.le_of_ble_eq_true rfl⟩, Nat.le_of_ble_eq_true rfl, Nat.le_of_ble_eq_true rfl, Nat.le_of_ble_eq_true rfl⟩ dX6_garmentsIn_13 (fun H locs hw => ?_)
  refine lv_if_eq (tgt := 23) hx hb dX6_garmentsIn_16 (by decide) (fun c7 => ?_) (fun c7 => ?_)
  · have hf := cl_yes c7 hf
    refine lv_aload_n hx hb dX6_garmentsIn_23 rfl (lv_at hl 0 rfl) ?_
    refine lv_iload_n hx hb dX6_garmentsIn_24 rfl (lv_at hl 1 rfl) ?_
    obtain ⟨v8, e9, hf⟩ := cl_bind_e hf
    refine cr_Vi C hw (c_X6_setIn hlt ht0 e9) cy_X6_setIn vy_X6_setIn ml_X6_153 (cl_lt ht0 (by decide)) (cl_e6 ht0) rfl rfl (As := [.int a1]) rfl hl.1 rfl ⟨⟨Nat.le_of_ble_eq_true rfl, Nat.le_of_ble_eq_true rfl⟩, Nat.le_of_ble_eq_true rfl, Nat.le_of_ble_eq_true rfl, Nat.le_of_ble_eq_true rfl⟩ dX6_garmentsIn_25 (fun H locs hw => ?_)
    exact k_X6_garmentsIn_28 C M5 v8 _ _ hf _ _ _ hw (lv_sub hl [] rfl)
  · have hf := cl_no c7 hf
    refine lv_iconst (v := 0) hx hb dX6_garmentsIn_19 (by decide) ?_
    refine lv_goto (tgt := 28) hx hb dX6_garmentsIn_20 (by decide) ?_
    exact k_X6_garmentsIn_28 C M5 0 _ _ hf _ _ _ hw (lv_sub hl [] rfl)
set_option maxRecDepth 100000 in
theorem c_X6_garmentsIn {l : Launch} {dd : cl_D} {b : Nat} (hlt : l.stackTraces = false) {M : cl_M} {t0 : Nat} {a1 : Int32}  {r : Int32} {M' : cl_M} (ht0 : cl_sh dd t0 = 6) (h : f_X6_garmentsIn M t0 a1 = some (r, M')) : cl_Mi l dd b yX6_garmentsIn cX6_garmentsIn 2 (some .int) 3 67 [.ref (b + t0), .int a1] M r M' :=
  cl_of hlt (by decide) (Nat.le_of_ble_eq_true rfl) (fun p e s m below meth c ls C hw hl => k_X6_garmentsIn C M t0 a1 r M' h _ _ _ ht0 hw (lv_sub hl [0, 1] rfl))
theorem cy_X6_garmentsIn : cl_cy yX6_garmentsIn cX6_garmentsIn 2 (some .int) 1 := ⟨in_ClothesLineModel, cd_X6_garmentsIn, by decide +kernel, by decide +kernel, by decide +kernel⟩
theorem vy_X6_garmentsIn : cl_vy yX6_garmentsIn := ⟨im_X6_garmentsIn, se_X6_garmentsIn⟩
def f_X6_drySet_32 (r4 : cl_M → Nat → Int32 → Int32 → Option (Int32)) (M : cl_M) (t0 : Nat) (a2 : Int32) (z0 : Int32) (z1 : Int32) : Option (Int32) := cl_let (z1 ||| z0) (fun v5 => cl_let (a2 + 1) (fun v6 => r4 M t0 v5 v6))
set_option maxHeartbeats 4000000 in
set_option maxRecDepth 100000 in
theorem k_X6_drySet_32 {p : Program} {l : Launch} {e : Env} {s : State} {m : MethodId} {args : Array Value} {below : List Frame} {meth : Method} {c : Code} {dd : cl_D} {b : Nat} (C : cl_C p l s m args meth c cX6_drySet RX6 3 (some .int) dd b) {r4 : cl_M → Nat → Int32 → Int32 → Option (Int32)} (hr4 : ∀ (M : cl_M) (t0 : Nat) (a1 : Int32) (a2 : Int32) (r : Int32), r4 M t0 a1 a2 = some r → ∀ (H : Heap) (locs : List Loc) (ls : Array Slot), cl_sh dd t0 = 6 → cl_H dd b M s H locs → lv_has ls 3 [(0, .ref (b + t0)), (1, .int a1), (2, .int a2)] → W p l e { frames := 1, cells := 0, slots := 0, locals := 22 } s m args below meth c H locs 0 0 (cl_Zi below args s dd b r M) (F0 m 4 ls [])) : ∀ (M : cl_M) (t0 : Nat) (a2 : Int32) (z0 : Int32) (z1 : Int32) (r : Int32), f_X6_drySet_32 r4 M t0 a2 z0 z1 = some r → ∀ (H : Heap) (locs : List Loc) (ls : Array Slot), cl_sh dd t0 = 6 → cl_H dd b M s H locs → lv_has ls 3 [(0, .ref (b + t0)), (2, .int a2)] → W p l e { frames := 1, cells := 0, slots := 0, locals := 22 } s m args below meth c H locs 0 0 (cl_Zi below args s dd b r M) (F0 m 32 ls [.int z0, .int z1]) := by
  have hx := C.1
  have hb := C.2.1
  have hlt := C.2.2.2.2.2.2.2.2.2.2
  have hRr := C.2.2.2.2.2.2.2.2.2.1
  intro M t0 a2 z0 z1 r hf H locs ls ht0 hw hl
  unfold f_X6_drySet_32 at hf
  refine lv_ior hx hb dX6_drySet_32 ?_
  obtain ⟨v5, ev5, hf⟩ := cl_let_e hf
  refine cr_top ev5 ?_
  refine lv_istore_n (lv' := [(1, .int v5), (0, .ref (b + t0)), (2, .int a2)]) hx hb dX6_drySet_33 rfl hl (by decide) rfl (fun ls hl => ?_)
  obtain ⟨v6, ev6, hf⟩ := cl_let_e hf
  refine lv_iinc (v := v6) (lv' := [(2, .int v6), (1, .int v5), (0, .ref (b + t0))]) hx hb dX6_drySet_34 hl (k := 2) rfl (by rw [ev6]; rfl) (by decide) rfl (fun ls hl => ?_)
  refine lv_goto (tgt := 4) hx hb dX6_drySet_37 (by decide) ?_
  exact hr4 M t0 v5 v6 _ hf _ _ _ ht0 hw (lv_sub hl [2, 1, 0] rfl)
def f_X6_drySet_4 : Nat → cl_M → Nat → Int32 → Int32 → Option (Int32)
  | 0, _, _, _, _ => none
  | k + 1, M, t0, a1, a2 => if (M (t0 + 2) 7) ≤ a2 then some a1 else (f_X6_of M t0 a2 3).bind (fun v2 => if v2 = 0 then f_X6_drySet_32 (f_X6_drySet_4 k) M t0 a2 (1 <<< (a2 &&& 31)) a1 else f_X6_drySet_32 (f_X6_drySet_4 k) M t0 a2 0 a1)
set_option maxHeartbeats 4000000 in
set_option maxRecDepth 100000 in
theorem k_X6_drySet_4 {p : Program} {l : Launch} {e : Env} {s : State} {m : MethodId} {args : Array Value} {below : List Frame} {meth : Method} {c : Code} {dd : cl_D} {b : Nat} (C : cl_C p l s m args meth c cX6_drySet RX6 3 (some .int) dd b) : ∀ (k : Nat), ∀ (M : cl_M) (t0 : Nat) (a1 : Int32) (a2 : Int32) (r : Int32), f_X6_drySet_4 k M t0 a1 a2 = some r → ∀ (H : Heap) (locs : List Loc) (ls : Array Slot), cl_sh dd t0 = 6 → cl_H dd b M s H locs → lv_has ls 3 [(0, .ref (b + t0)), (1, .int a1), (2, .int a2)] → W p l e { frames := 1, cells := 0, slots := 0, locals := 22 } s m args below meth c H locs 0 0 (cl_Zi below args s dd b r M) (F0 m 4 ls []) := by
  have hx := C.1
  have hb := C.2.1
  have hlt := C.2.2.2.2.2.2.2.2.2.2
  have hRr := C.2.2.2.2.2.2.2.2.2.1
  intro k
  induction k with
  | zero =>
    intro M t0 a1 a2 r hf H locs ls ht0 hw hl
    rw [f_X6_drySet_4] at hf
    cases hf
  | succ k ih =>
    intro M t0 a1 a2 r hf H locs ls ht0 hw hl
    rw [f_X6_drySet_4] at hf
    refine lv_iload_n hx hb dX6_drySet_4 rfl (lv_at hl 2 rfl) ?_
    refine lv_aload_n hx hb dX6_drySet_5 rfl (lv_at hl 0 rfl) ?_
    refine fg_X6_17 C hw ht0 dX6_drySet_6 ?_
    refine lv_bipush (v := 7) hx hb dX6_drySet_9 (by decide) ?_
    refine cr_iald C hw (sh_6_5 ht0).1 (sh_6_5 ht0).2 (by decide) (k := 7) rfl dX6_drySet_11 ?_
    refine lv_icmp_ge (tgt := 40) hx hb dX6_drySet_12 (by decide) (fun c1 => ?_) (fun c1 => ?_)
    · have hf := cl_yes c1 hf
      refine lv_iload_n hx hb dX6_drySet_40 rfl (lv_at hl 1 rfl) ?_
      obtain rfl := Option.some.inj hf
      exact cr_reti C hw dX6_drySet_41
    · have hf := cl_no c1 hf
      refine lv_iload_n hx hb dX6_drySet_15 rfl (lv_at hl 1 rfl) ?_
      refine lv_aload_n hx hb dX6_drySet_16 rfl (lv_at hl 0 rfl) ?_
      refine lv_iload_n hx hb dX6_drySet_17 rfl (lv_at hl 2 rfl) ?_
      refine lv_iconst (v := 3) hx hb dX6_drySet_18 (by decide) ?_
      obtain ⟨v2, e3, hf⟩ := cl_bind_e hf
      refine cr_Vi C hw (c_X6_of hlt ht0 e3) cy_X6_of vy_X6_of ml_X6_81 (cl_lt ht0 (by decide)) (cl_e6 ht0) rfl rfl (As := [.int a2, .int 3]) rfl hl.1 rfl ⟨⟨Nat.le_of_ble_eq_true rfl, Nat.le_of_ble_eq_true rfl⟩, Nat.le_of_ble_eq_true rfl, Nat.le_of_ble_eq_true rfl, Nat.le_of_ble_eq_true rfl⟩ dX6_drySet_19 (fun H locs hw => ?_)
      refine lv_if_ne (tgt := 31) hx hb dX6_drySet_22 (by decide) (fun c4 => ?_) (fun c4 => ?_)
      · have hf := cl_no c4 hf
        refine lv_iconst (v := 0) hx hb dX6_drySet_31 (by decide) ?_
        exact k_X6_drySet_32 C ih M t0 a2 0 a1 _ hf _ _ _ ht0 hw (lv_sub hl [0, 2] rfl)
      · have hf := cl_yes c4 hf
        refine lv_iconst (v := 1) hx hb dX6_drySet_25 (by decide) ?_
        refine lv_iload_n hx hb dX6_drySet_26 rfl (lv_at hl 2 rfl) ?_
        refine lv_ishl hx hb dX6_drySet_27 ?_
        refine lv_goto (tgt := 32) hx hb dX6_drySet_28 (by decide) ?_
        exact k_X6_drySet_32 C ih M t0 a2 (1 <<< (a2 &&& 31)) a1 _ hf _ _ _ ht0 hw (lv_sub hl [0, 2] rfl)
def f_X6_drySet (M : cl_M) (t0 : Nat) : Option (Int32) := f_X6_drySet_4 cl_F M t0 0 0
set_option maxHeartbeats 4000000 in
set_option maxRecDepth 100000 in
theorem k_X6_drySet {p : Program} {l : Launch} {e : Env} {s : State} {m : MethodId} {args : Array Value} {below : List Frame} {meth : Method} {c : Code} {dd : cl_D} {b : Nat} (C : cl_C p l s m args meth c cX6_drySet RX6 3 (some .int) dd b) : ∀ (M : cl_M) (t0 : Nat) (r : Int32), f_X6_drySet M t0 = some r → ∀ (H : Heap) (locs : List Loc) (ls : Array Slot), cl_sh dd t0 = 6 → cl_H dd b M s H locs → lv_has ls 3 [(0, .ref (b + t0))] → W p l e { frames := 1, cells := 0, slots := 0, locals := 22 } s m args below meth c H locs 0 0 (cl_Zi below args s dd b r M) (F0 m 0 ls []) := by
  have hx := C.1
  have hb := C.2.1
  have hlt := C.2.2.2.2.2.2.2.2.2.2
  have hRr := C.2.2.2.2.2.2.2.2.2.1
  intro M t0 r hf H locs ls ht0 hw hl
  unfold f_X6_drySet at hf
  refine lv_iconst (v := 0) hx hb dX6_drySet_0 (by decide) ?_
  refine lv_istore_n (lv' := [(1, .int 0), (0, .ref (b + t0))]) hx hb dX6_drySet_1 rfl hl (by decide) rfl (fun ls hl => ?_)
  refine lv_iconst (v := 0) hx hb dX6_drySet_2 (by decide) ?_
  refine lv_istore_n (lv' := [(2, .int 0), (1, .int 0), (0, .ref (b + t0))]) hx hb dX6_drySet_3 rfl hl (by decide) rfl (fun ls hl => ?_)
  exact k_X6_drySet_4 C cl_F M t0 0 0 _ hf _ _ _ ht0 hw (lv_sub hl [2, 1, 0] rfl)
set_option maxRecDepth 100000 in
theorem c_X6_drySet {l : Launch} {dd : cl_D} {b : Nat} (hlt : l.stackTraces = false) {M : cl_M} {t0 : Nat}  {r : Int32} (ht0 : cl_sh dd t0 = 6) (h : f_X6_drySet M t0 = some r) : cl_Mi l dd b yX6_drySet cX6_drySet 3 (some .int) 1 22 [.ref (b + t0)] M r M :=
  cl_of hlt (by decide) (Nat.le_of_ble_eq_true rfl) (fun p e s m below meth c ls C hw hl => k_X6_drySet C M t0 r h _ _ _ ht0 hw (lv_sub hl [0] rfl))
theorem cy_X6_drySet : cl_cy yX6_drySet cX6_drySet 3 (some .int) 0 := ⟨in_ClothesLineModel, cd_X6_drySet, by decide +kernel, by decide +kernel, by decide +kernel⟩
theorem vy_X6_drySet : cl_vy yX6_drySet := ⟨im_X6_drySet, se_X6_drySet⟩
def f_X6_dryGarments (M : cl_M) (t0 : Nat) : Option (Int32 × cl_M) := (f_X6_drySet M t0).bind (fun v1 => cl_b2 (f_X6_plain M t0 v1) (fun v3 M4 => some (v3, M4)))
set_option maxHeartbeats 4000000 in
set_option maxRecDepth 100000 in
theorem k_X6_dryGarments {p : Program} {l : Launch} {e : Env} {s : State} {m : MethodId} {args : Array Value} {below : List Frame} {meth : Method} {c : Code} {dd : cl_D} {b : Nat} (C : cl_C p l s m args meth c cX6_dryGarments RX6 1 (some .int) dd b) : ∀ (M : cl_M) (t0 : Nat) (r : Int32) (M' : cl_M), f_X6_dryGarments M t0 = some (r, M') → ∀ (H : Heap) (locs : List Loc) (ls : Array Slot), cl_sh dd t0 = 6 → cl_H dd b M s H locs → lv_has ls 1 [(0, .ref (b + t0))] → W p l e { frames := 2, cells := 0, slots := 0, locals := 44 } s m args below meth c H locs 0 0 (cl_Zi below args s dd b r M') (F0 m 0 ls []) := by
  have hx := C.1
  have hb := C.2.1
  have hlt := C.2.2.2.2.2.2.2.2.2.2
  have hRr := C.2.2.2.2.2.2.2.2.2.1
  intro M t0 r M' hf H locs ls ht0 hw hl
  unfold f_X6_dryGarments at hf
  refine lv_aload_n hx hb dX6_dryGarments_0 rfl (lv_at hl 0 rfl) ?_
  refine lv_aload_n hx hb dX6_dryGarments_1 rfl (lv_at hl 0 rfl) ?_
  obtain ⟨v1, e2, hf⟩ := cl_bind_e hf
  refine cr_Vi C hw (c_X6_drySet hlt ht0 e2) cy_X6_drySet vy_X6_drySet ml_X6_338 (cl_lt ht0 (by decide)) (cl_e6 ht0) rfl rfl (As := []) rfl hl.1 rfl ⟨⟨Nat.le_of_ble_eq_true rfl, Nat.le_of_ble_eq_true rfl⟩, Nat.le_of_ble_eq_true rfl, Nat.le_of_ble_eq_true rfl, Nat.le_of_ble_eq_true rfl⟩ dX6_dryGarments_2 (fun H locs hw => ?_)
  obtain ⟨v3, M4, e5, hf⟩ := cl_b2_e hf
  refine cr_Vi C hw (c_X6_plain hlt ht0 e5) cy_X6_plain vy_X6_plain ml_X6_310 (cl_lt ht0 (by decide)) (cl_e6 ht0) rfl rfl (As := [.int v1]) rfl hl.1 rfl ⟨⟨Nat.le_of_ble_eq_true rfl, Nat.le_of_ble_eq_true rfl⟩, Nat.le_of_ble_eq_true rfl, Nat.le_of_ble_eq_true rfl, Nat.le_of_ble_eq_true rfl⟩ dX6_dryGarments_5 (fun H locs hw => ?_)
  obtain ⟨rfl, rfl⟩ := cl_pair hf
  exact cr_reti C hw dX6_dryGarments_8
set_option maxRecDepth 100000 in
theorem c_X6_dryGarments {l : Launch} {dd : cl_D} {b : Nat} (hlt : l.stackTraces = false) {M : cl_M} {t0 : Nat}  {r : Int32} {M' : cl_M} (ht0 : cl_sh dd t0 = 6) (h : f_X6_dryGarments M t0 = some (r, M')) : cl_Mi l dd b yX6_dryGarments cX6_dryGarments 1 (some .int) 2 44 [.ref (b + t0)] M r M' :=
  cl_of hlt (by decide) (Nat.le_of_ble_eq_true rfl) (fun p e s m below meth c ls C hw hl => k_X6_dryGarments C M t0 r M' h _ _ _ ht0 hw (lv_sub hl [0] rfl))
theorem cy_X6_dryGarments : cl_cy yX6_dryGarments cX6_dryGarments 1 (some .int) 0 := ⟨in_ClothesLineModel, cd_X6_dryGarments, by decide +kernel, by decide +kernel, by decide +kernel⟩
theorem vy_X6_dryGarments : cl_vy yX6_dryGarments := ⟨im_X6_dryGarments, se_X6_dryGarments⟩
def f_X6_canAsk_55 (M : cl_M) (z0 : Int32) : Option (Int32 × cl_M) := if cl_bz z0 = true then some (z0, M) else none
set_option maxHeartbeats 4000000 in
set_option maxRecDepth 100000 in
theorem k_X6_canAsk_55 {p : Program} {l : Launch} {e : Env} {s : State} {m : MethodId} {args : Array Value} {below : List Frame} {meth : Method} {c : Code} {dd : cl_D} {b : Nat} (C : cl_C p l s m args meth c cX6_canAsk RX6 5 (some .boolean) dd b) : ∀ (M : cl_M) (z0 : Int32) (r : Int32) (M' : cl_M), f_X6_canAsk_55 M z0 = some (r, M') → ∀ (H : Heap) (locs : List Loc) (ls : Array Slot), cl_H dd b M s H locs → lv_has ls 5 [] → W p l e { frames := 2, cells := 0, slots := 0, locals := 43 } s m args below meth c H locs 0 0 (cl_Zi below args s dd b r M') (F0 m 55 ls [.int z0]) := by
  have hx := C.1
  have hb := C.2.1
  have hlt := C.2.2.2.2.2.2.2.2.2.2
  have hRr := C.2.2.2.2.2.2.2.2.2.1
  intro M z0 r M' hf H locs ls hw hl
  unfold f_X6_canAsk_55 at hf
  obtain ⟨q5, hf⟩ := cl_grd hf
  obtain ⟨rfl, rfl⟩ := cl_pair hf
  exact cr_retz C hw q5 dX6_canAsk_55
def f_X6_canAsk_43 (M : cl_M) (z0 : Int32) (w1 : Nat) : Option (Int32 × cl_M) := cl_b2 (f_X6_fails M w1 z0 2) (fun v9 M10 => if v9 = 0 then f_X6_canAsk_55 M10 1 else f_X6_canAsk_55 M10 0)
set_option maxHeartbeats 4000000 in
set_option maxRecDepth 100000 in
theorem k_X6_canAsk_43 {p : Program} {l : Launch} {e : Env} {s : State} {m : MethodId} {args : Array Value} {below : List Frame} {meth : Method} {c : Code} {dd : cl_D} {b : Nat} (C : cl_C p l s m args meth c cX6_canAsk RX6 5 (some .boolean) dd b) : ∀ (M : cl_M) (z0 : Int32) (w1 : Nat) (r : Int32) (M' : cl_M), f_X6_canAsk_43 M z0 w1 = some (r, M') → ∀ (H : Heap) (locs : List Loc) (ls : Array Slot), cl_sh dd w1 = 6 → cl_H dd b M s H locs → lv_has ls 5 [] → W p l e { frames := 2, cells := 0, slots := 0, locals := 43 } s m args below meth c H locs 0 0 (cl_Zi below args s dd b r M') (F0 m 43 ls [.int z0, .ref (b + w1)]) := by
  have hx := C.1
  have hb := C.2.1
  have hlt := C.2.2.2.2.2.2.2.2.2.2
  have hRr := C.2.2.2.2.2.2.2.2.2.1
  intro M z0 w1 r M' hf H locs ls hw1 hw hl
  unfold f_X6_canAsk_43 at hf
  refine lv_iconst (v := 2) hx hb dX6_canAsk_43 (by decide) ?_
  obtain ⟨v9, M10, e11, hf⟩ := cl_b2_e hf
  refine cr_Vi C hw (c_X6_fails hlt hw1 e11) cy_X6_fails vy_X6_fails ml_X6_313 (cl_lt hw1 (by decide)) (cl_e6 hw1) rfl rfl (As := [.int z0, .int 2]) rfl hl.1 rfl ⟨⟨Nat.le_of_ble_eq_true rfl, Nat.le_of_ble_eq_true rfl⟩, Nat.le_of_ble_eq_true rfl, Nat.le_of_ble_eq_true rfl, Nat.le_of_ble_eq_true rfl⟩ dX6_canAsk_44 (fun H locs hw => ?_)
  refine lv_if_ne (tgt := 54) hx hb dX6_canAsk_47 (by decide) (fun c12 => ?_) (fun c12 => ?_)
  · have hf := cl_no c12 hf
    refine lv_iconst (v := 0) hx hb dX6_canAsk_54 (by decide) ?_
    exact k_X6_canAsk_55 C M10 0 _ _ hf _ _ _ hw (lv_sub hl [] rfl)
  · have hf := cl_yes c12 hf
    refine lv_iconst (v := 1) hx hb dX6_canAsk_50 (by decide) ?_
    refine lv_goto (tgt := 55) hx hb dX6_canAsk_51 (by decide) ?_
    exact k_X6_canAsk_55 C M10 1 _ _ hf _ _ _ hw (lv_sub hl [] rfl)
def f_X6_canAsk_42 (M : cl_M) (w0 : Nat) : Option (Int32 × cl_M) := f_X6_canAsk_43 M 0 w0
set_option maxHeartbeats 4000000 in
set_option maxRecDepth 100000 in
theorem k_X6_canAsk_42 {p : Program} {l : Launch} {e : Env} {s : State} {m : MethodId} {args : Array Value} {below : List Frame} {meth : Method} {c : Code} {dd : cl_D} {b : Nat} (C : cl_C p l s m args meth c cX6_canAsk RX6 5 (some .boolean) dd b) : ∀ (M : cl_M) (w0 : Nat) (r : Int32) (M' : cl_M), f_X6_canAsk_42 M w0 = some (r, M') → ∀ (H : Heap) (locs : List Loc) (ls : Array Slot), cl_sh dd w0 = 6 → cl_H dd b M s H locs → lv_has ls 5 [] → W p l e { frames := 2, cells := 0, slots := 0, locals := 43 } s m args below meth c H locs 0 0 (cl_Zi below args s dd b r M') (F0 m 42 ls [.ref (b + w0)]) := by
  have hx := C.1
  have hb := C.2.1
  have hlt := C.2.2.2.2.2.2.2.2.2.2
  have hRr := C.2.2.2.2.2.2.2.2.2.1
  intro M w0 r M' hf H locs ls hw0 hw hl
  unfold f_X6_canAsk_42 at hf
  refine lv_iconst (v := 0) hx hb dX6_canAsk_42 (by decide) ?_
  exact k_X6_canAsk_43 C M 0 w0 _ _ hf _ _ _ hw0 hw (lv_sub hl [] rfl)
def f_X6_canAsk (M : cl_M) (t0 : Nat) (a1 : Int32) (a2 : Int32) (a3 : Int32) (a4 : Int32) : Option (Int32 × cl_M) := cl_b2 (f_X6_isGarment M t0 a1) (fun v1 M2 => if v1 = 0 then f_X6_canAsk_55 M2 0 else (f_X6_inRange M2 a2 0 23).bind (fun v6 => if v6 = 0 then f_X6_canAsk_42 M2 t0 else (f_X6_inRange M2 a3 0 4).bind (fun v13 => if v13 = 0 then f_X6_canAsk_42 M2 t0 else (f_X6_inRange M2 a4 0 4).bind (fun v16 => if v16 = 0 then f_X6_canAsk_42 M2 t0 else f_X6_canAsk_43 M2 1 t0))))
set_option maxHeartbeats 4000000 in
set_option maxRecDepth 100000 in
theorem k_X6_canAsk {p : Program} {l : Launch} {e : Env} {s : State} {m : MethodId} {args : Array Value} {below : List Frame} {meth : Method} {c : Code} {dd : cl_D} {b : Nat} (C : cl_C p l s m args meth c cX6_canAsk RX6 5 (some .boolean) dd b) : ∀ (M : cl_M) (t0 : Nat) (a1 : Int32) (a2 : Int32) (a3 : Int32) (a4 : Int32) (r : Int32) (M' : cl_M), f_X6_canAsk M t0 a1 a2 a3 a4 = some (r, M') → ∀ (H : Heap) (locs : List Loc) (ls : Array Slot), cl_sh dd t0 = 6 → cl_H dd b M s H locs → lv_has ls 5 [(0, .ref (b + t0)), (1, .int a1), (2, .int a2), (3, .int a3), (4, .int a4)] → W p l e { frames := 2, cells := 0, slots := 0, locals := 43 } s m args below meth c H locs 0 0 (cl_Zi below args s dd b r M') (F0 m 0 ls []) := by
  have hx := C.1
  have hb := C.2.1
  have hlt := C.2.2.2.2.2.2.2.2.2.2
  have hRr := C.2.2.2.2.2.2.2.2.2.1
  intro M t0 a1 a2 a3 a4 r M' hf H locs ls ht0 hw hl
  unfold f_X6_canAsk at hf
  refine lv_aload_n hx hb dX6_canAsk_0 rfl (lv_at hl 0 rfl) ?_
  refine lv_iload_n hx hb dX6_canAsk_1 rfl (lv_at hl 1 rfl) ?_
  obtain ⟨v1, M2, e3, hf⟩ := cl_b2_e hf
  refine cr_Vi C hw (c_X6_isGarment hlt ht0 e3) cy_X6_isGarment vy_X6_isGarment ml_X6_332 (cl_lt ht0 (by decide)) (cl_e6 ht0) rfl rfl (As := [.int a1]) rfl hl.1 rfl ⟨⟨Nat.le_of_ble_eq_true rfl, Nat.le_of_ble_eq_true rfl⟩, Nat.le_of_ble_eq_true rfl, Nat.le_of_ble_eq_true rfl, Nat.le_of_ble_eq_true rfl⟩ dX6_canAsk_2 (fun H locs hw => ?_)
  refine lv_if_eq (tgt := 54) hx hb dX6_canAsk_5 (by decide) (fun c4 => ?_) (fun c4 => ?_)
  · have hf := cl_yes c4 hf
    refine lv_iconst (v := 0) hx hb dX6_canAsk_54 (by decide) ?_
    exact k_X6_canAsk_55 C M2 0 _ _ hf _ _ _ hw (lv_sub hl [] rfl)
  · have hf := cl_no c4 hf
    refine lv_aload_n hx hb dX6_canAsk_8 rfl (lv_at hl 0 rfl) ?_
    refine lv_iload_n hx hb dX6_canAsk_9 rfl (lv_at hl 2 rfl) ?_
    refine lv_iconst (v := 0) hx hb dX6_canAsk_10 (by decide) ?_
    refine lv_bipush (v := 23) hx hb dX6_canAsk_11 (by decide) ?_
    obtain ⟨v6, e7, hf⟩ := cl_bind_e hf
    refine cr_Si C hw (c_X6_inRange hlt e7) cy_X6_inRange st_X6_inRange ml_X6_63 (As := [.int a2, .int 0, .int 23]) rfl hl.1 rfl ⟨⟨Nat.le_of_ble_eq_true rfl, Nat.le_of_ble_eq_true rfl⟩, Nat.le_of_ble_eq_true rfl, Nat.le_of_ble_eq_true rfl, Nat.le_of_ble_eq_true rfl⟩ dX6_canAsk_13 (fun H locs hw => ?_)
    refine lv_if_eq (tgt := 42) hx hb dX6_canAsk_16 (by decide) (fun c8 => ?_) (fun c8 => ?_)
    · have hf := cl_yes c8 hf
      exact k_X6_canAsk_42 C M2 t0 _ _ hf _ _ _ ht0 hw (lv_sub hl [] rfl)
    · have hf := cl_no c8 hf
      refine lv_iload_n hx hb dX6_canAsk_19 rfl (lv_at hl 3 rfl) ?_
      refine lv_iconst (v := 0) hx hb dX6_canAsk_20 (by decide) ?_
      refine lv_iconst (v := 4) hx hb dX6_canAsk_21 (by decide) ?_
      obtain ⟨v13, e14, hf⟩ := cl_bind_e hf
      refine cr_Si C hw (c_X6_inRange hlt e14) cy_X6_inRange st_X6_inRange ml_X6_63 (As := [.int a3, .int 0, .int 4]) rfl hl.1 rfl ⟨⟨Nat.le_of_ble_eq_true rfl, Nat.le_of_ble_eq_true rfl⟩, Nat.le_of_ble_eq_true rfl, Nat.le_of_ble_eq_true rfl, Nat.le_of_ble_eq_true rfl⟩ dX6_canAsk_22 (fun H locs hw => ?_)
      refine lv_if_eq (tgt := 42) hx hb dX6_canAsk_25 (by decide) (fun c15 => ?_) (fun c15 => ?_)
      · have hf := cl_yes c15 hf
        exact k_X6_canAsk_42 C M2 t0 _ _ hf _ _ _ ht0 hw (lv_sub hl [] rfl)
      · have hf := cl_no c15 hf
        refine lv_iload hx hb dX6_canAsk_28 (lv_at hl 4 rfl) ?_
        refine lv_iconst (v := 0) hx hb dX6_canAsk_30 (by decide) ?_
        refine lv_iconst (v := 4) hx hb dX6_canAsk_31 (by decide) ?_
        obtain ⟨v16, e17, hf⟩ := cl_bind_e hf
        refine cr_Si C hw (c_X6_inRange hlt e17) cy_X6_inRange st_X6_inRange ml_X6_63 (As := [.int a4, .int 0, .int 4]) rfl hl.1 rfl ⟨⟨Nat.le_of_ble_eq_true rfl, Nat.le_of_ble_eq_true rfl⟩, Nat.le_of_ble_eq_true rfl, Nat.le_of_ble_eq_true rfl, Nat.le_of_ble_eq_true rfl⟩ dX6_canAsk_32 (fun H locs hw => ?_)
        refine lv_if_eq (tgt := 42) hx hb dX6_canAsk_35 (by decide) (fun c18 => ?_) (fun c18 => ?_)
        · have hf := cl_yes c18 hf
          exact k_X6_canAsk_42 C M2 t0 _ _ hf _ _ _ ht0 hw (lv_sub hl [] rfl)
        · have hf := cl_no c18 hf
          refine lv_iconst (v := 1) hx hb dX6_canAsk_38 (by decide) ?_
          refine lv_goto (tgt := 43) hx hb dX6_canAsk_39 (by decide) ?_
          exact k_X6_canAsk_43 C M2 1 t0 _ _ hf _ _ _ ht0 hw (lv_sub hl [] rfl)
set_option maxRecDepth 100000 in
theorem c_X6_canAsk {l : Launch} {dd : cl_D} {b : Nat} (hlt : l.stackTraces = false) {M : cl_M} {t0 : Nat} {a1 : Int32} {a2 : Int32} {a3 : Int32} {a4 : Int32}  {r : Int32} {M' : cl_M} (ht0 : cl_sh dd t0 = 6) (h : f_X6_canAsk M t0 a1 a2 a3 a4 = some (r, M')) : cl_Mi l dd b yX6_canAsk cX6_canAsk 5 (some .boolean) 2 43 [.ref (b + t0), .int a1, .int a2, .int a3, .int a4] M r M' :=
  cl_of hlt (by decide) (Nat.le_of_ble_eq_true rfl) (fun p e s m below meth c ls C hw hl => k_X6_canAsk C M t0 a1 a2 a3 a4 r M' h _ _ _ ht0 hw (lv_sub hl [0, 1, 2, 3, 4] rfl))
theorem cy_X6_canAsk : cl_cy yX6_canAsk cX6_canAsk 5 (some .boolean) 4 := ⟨in_ClothesLineModel, cd_X6_canAsk, by decide +kernel, by decide +kernel, by decide +kernel⟩
theorem vy_X6_canAsk : cl_vy yX6_canAsk := ⟨im_X6_canAsk, se_X6_canAsk⟩
def f_X6_hangObstacle_25 (M : cl_M) (z0 : Int32) : Option (Int32 × cl_M) := some (z0, M)
set_option maxHeartbeats 4000000 in
set_option maxRecDepth 100000 in
theorem k_X6_hangObstacle_25 {p : Program} {l : Launch} {e : Env} {s : State} {m : MethodId} {args : Array Value} {below : List Frame} {meth : Method} {c : Code} {dd : cl_D} {b : Nat} (C : cl_C p l s m args meth c cX6_hangObstacle RX6 5 (some .int) dd b) : ∀ (M : cl_M) (z0 : Int32) (r : Int32) (M' : cl_M), f_X6_hangObstacle_25 M z0 = some (r, M') → ∀ (H : Heap) (locs : List Loc) (ls : Array Slot), cl_H dd b M s H locs → lv_has ls 5 [] → W p l e { frames := 5, cells := 0, slots := 0, locals := 112 } s m args below meth c H locs 0 0 (cl_Zi below args s dd b r M') (F0 m 25 ls [.int z0]) := by
  have hx := C.1
  have hb := C.2.1
  have hlt := C.2.2.2.2.2.2.2.2.2.2
  have hRr := C.2.2.2.2.2.2.2.2.2.1
  intro M z0 r M' hf H locs ls hw hl
  unfold f_X6_hangObstacle_25 at hf
  obtain ⟨rfl, rfl⟩ := cl_pair hf
  exact cr_reti C hw dX6_hangObstacle_25
def f_X6_hangObstacle (M : cl_M) (t0 : Nat) (a1 : Int32) (a2 : Int32) (a3 : Int32) (a4 : Int32) : Option (Int32 × cl_M) := cl_b2 (f_X6_canAsk M t0 a1 a2 a3 a4) (fun v1 M2 => if v1 = 0 then f_X6_hangObstacle_25 M2 0 else (f_X6_obstacle M2 t0 a1 a2 a3 a4).bind (fun v5 => f_X6_hangObstacle_25 M2 v5))
set_option maxHeartbeats 4000000 in
set_option maxRecDepth 100000 in
theorem k_X6_hangObstacle {p : Program} {l : Launch} {e : Env} {s : State} {m : MethodId} {args : Array Value} {below : List Frame} {meth : Method} {c : Code} {dd : cl_D} {b : Nat} (C : cl_C p l s m args meth c cX6_hangObstacle RX6 5 (some .int) dd b) : ∀ (M : cl_M) (t0 : Nat) (a1 : Int32) (a2 : Int32) (a3 : Int32) (a4 : Int32) (r : Int32) (M' : cl_M), f_X6_hangObstacle M t0 a1 a2 a3 a4 = some (r, M') → ∀ (H : Heap) (locs : List Loc) (ls : Array Slot), cl_sh dd t0 = 6 → cl_H dd b M s H locs → lv_has ls 5 [(0, .ref (b + t0)), (1, .int a1), (2, .int a2), (3, .int a3), (4, .int a4)] → W p l e { frames := 5, cells := 0, slots := 0, locals := 112 } s m args below meth c H locs 0 0 (cl_Zi below args s dd b r M') (F0 m 0 ls []) := by
  have hx := C.1
  have hb := C.2.1
  have hlt := C.2.2.2.2.2.2.2.2.2.2
  have hRr := C.2.2.2.2.2.2.2.2.2.1
  intro M t0 a1 a2 a3 a4 r M' hf H locs ls ht0 hw hl
  unfold f_X6_hangObstacle at hf
  refine lv_aload_n hx hb dX6_hangObstacle_0 rfl (lv_at hl 0 rfl) ?_
  refine lv_iload_n hx hb dX6_hangObstacle_1 rfl (lv_at hl 1 rfl) ?_
  refine lv_iload_n hx hb dX6_hangObstacle_2 rfl (lv_at hl 2 rfl) ?_
  refine lv_iload_n hx hb dX6_hangObstacle_3 rfl (lv_at hl 3 rfl) ?_
  refine lv_iload hx hb dX6_hangObstacle_4 (lv_at hl 4 rfl) ?_
  obtain ⟨v1, M2, e3, hf⟩ := cl_b2_e hf
  refine cr_Vi C hw (c_X6_canAsk hlt ht0 e3) cy_X6_canAsk vy_X6_canAsk ml_X6_341 (cl_lt ht0 (by decide)) (cl_e6 ht0) rfl rfl (As := [.int a1, .int a2, .int a3, .int a4]) rfl hl.1 rfl ⟨⟨Nat.le_of_ble_eq_true rfl, Nat.le_of_ble_eq_true rfl⟩, Nat.le_of_ble_eq_true rfl, Nat.le_of_ble_eq_true rfl, Nat.le_of_ble_eq_true rfl⟩ dX6_hangObstacle_6 (fun H locs hw => ?_)
  refine lv_if_eq (tgt := 24) hx hb dX6_hangObstacle_9 (by decide) (fun c4 => ?_) (fun c4 => ?_)
  · have hf := cl_yes c4 hf
    refine lv_iconst (v := 0) hx hb dX6_hangObstacle_24 (by decide) ?_
    exact k_X6_hangObstacle_25 C M2 0 _ _ hf _ _ _ hw (lv_sub hl [] rfl)
  · have hf := cl_no c4 hf
    refine lv_aload_n hx hb dX6_hangObstacle_12 rfl (lv_at hl 0 rfl) ?_
    refine lv_iload_n hx hb dX6_hangObstacle_13 rfl (lv_at hl 1 rfl) ?_
    refine lv_iload_n hx hb dX6_hangObstacle_14 rfl (lv_at hl 2 rfl) ?_
    refine lv_iload_n hx hb dX6_hangObstacle_15 rfl (lv_at hl 3 rfl) ?_
    refine lv_iload hx hb dX6_hangObstacle_16 (lv_at hl 4 rfl) ?_
    obtain ⟨v5, e6, hf⟩ := cl_bind_e hf
    refine cr_Vi C hw (c_X6_obstacle hlt ht0 e6) cy_X6_obstacle vy_X6_obstacle ml_X6_245 (cl_lt ht0 (by decide)) (cl_e6 ht0) rfl rfl (As := [.int a1, .int a2, .int a3, .int a4]) rfl hl.1 rfl ⟨⟨Nat.le_of_ble_eq_true rfl, Nat.le_of_ble_eq_true rfl⟩, Nat.le_of_ble_eq_true rfl, Nat.le_of_ble_eq_true rfl, Nat.le_of_ble_eq_true rfl⟩ dX6_hangObstacle_18 (fun H locs hw => ?_)
    refine lv_goto (tgt := 25) hx hb dX6_hangObstacle_21 (by decide) ?_
    exact k_X6_hangObstacle_25 C M2 v5 _ _ hf _ _ _ hw (lv_sub hl [] rfl)
set_option maxRecDepth 100000 in
theorem c_X6_hangObstacle {l : Launch} {dd : cl_D} {b : Nat} (hlt : l.stackTraces = false) {M : cl_M} {t0 : Nat} {a1 : Int32} {a2 : Int32} {a3 : Int32} {a4 : Int32}  {r : Int32} {M' : cl_M} (ht0 : cl_sh dd t0 = 6) (h : f_X6_hangObstacle M t0 a1 a2 a3 a4 = some (r, M')) : cl_Mi l dd b yX6_hangObstacle cX6_hangObstacle 5 (some .int) 5 112 [.ref (b + t0), .int a1, .int a2, .int a3, .int a4] M r M' :=
  cl_of hlt (by decide) (Nat.le_of_ble_eq_true rfl) (fun p e s m below meth c ls C hw hl => k_X6_hangObstacle C M t0 a1 a2 a3 a4 r M' h _ _ _ ht0 hw (lv_sub hl [0, 1, 2, 3, 4] rfl))
theorem cy_X6_hangObstacle : cl_cy yX6_hangObstacle cX6_hangObstacle 5 (some .int) 4 := ⟨in_ClothesLineModel, cd_X6_hangObstacle, by decide +kernel, by decide +kernel, by decide +kernel⟩
theorem vy_X6_hangObstacle : cl_vy yX6_hangObstacle := ⟨im_X6_hangObstacle, se_X6_hangObstacle⟩
def f_X6_fewestPegs_75 (r12 : cl_M → Nat → Int32 → Int32 → Option (Int32 × cl_M)) (r19 : cl_M → Nat → Int32 → Int32 → Int32 → Option (Int32 × cl_M)) (M : cl_M) (t0 : Nat) (a1 : Int32) (a2 : Int32) (a3 : Int32) : Option (Int32 × cl_M) := cl_let (a3 + 1) (fun v10 => r19 M t0 a1 a2 v10)
set_option maxHeartbeats 4000000 in
set_option maxRecDepth 100000 in
theorem k_X6_fewestPegs_75 {p : Program} {l : Launch} {e : Env} {s : State} {m : MethodId} {args : Array Value} {below : List Frame} {meth : Method} {c : Code} {dd : cl_D} {b : Nat} (C : cl_C p l s m args meth c cX6_fewestPegs RX6 5 (some .int) dd b) {r12 : cl_M → Nat → Int32 → Int32 → Option (Int32 × cl_M)} (hr12 : ∀ (M : cl_M) (t0 : Nat) (a1 : Int32) (a2 : Int32) (r : Int32) (M' : cl_M), r12 M t0 a1 a2 = some (r, M') → ∀ (H : Heap) (locs : List Loc) (ls : Array Slot), cl_sh dd t0 = 6 → cl_H dd b M s H locs → lv_has ls 5 [(0, .ref (b + t0)), (1, .int a1), (2, .int a2)] → W p l e { frames := 2, cells := 0, slots := 0, locals := 43 } s m args below meth c H locs 0 0 (cl_Zi below args s dd b r M') (F0 m 12 ls [])) {r19 : cl_M → Nat → Int32 → Int32 → Int32 → Option (Int32 × cl_M)} (hr19 : ∀ (M : cl_M) (t0 : Nat) (a1 : Int32) (a2 : Int32) (a3 : Int32) (r : Int32) (M' : cl_M), r19 M t0 a1 a2 a3 = some (r, M') → ∀ (H : Heap) (locs : List Loc) (ls : Array Slot), cl_sh dd t0 = 6 → cl_H dd b M s H locs → lv_has ls 5 [(0, .ref (b + t0)), (1, .int a1), (2, .int a2), (3, .int a3)] → W p l e { frames := 2, cells := 0, slots := 0, locals := 43 } s m args below meth c H locs 0 0 (cl_Zi below args s dd b r M') (F0 m 19 ls [])) : ∀ (M : cl_M) (t0 : Nat) (a1 : Int32) (a2 : Int32) (a3 : Int32) (r : Int32) (M' : cl_M), f_X6_fewestPegs_75 r12 r19 M t0 a1 a2 a3 = some (r, M') → ∀ (H : Heap) (locs : List Loc) (ls : Array Slot), cl_sh dd t0 = 6 → cl_H dd b M s H locs → lv_has ls 5 [(0, .ref (b + t0)), (1, .int a1), (2, .int a2), (3, .int a3)] → W p l e { frames := 2, cells := 0, slots := 0, locals := 43 } s m args below meth c H locs 0 0 (cl_Zi below args s dd b r M') (F0 m 75 ls []) := by
  have hx := C.1
  have hb := C.2.1
  have hlt := C.2.2.2.2.2.2.2.2.2.2
  have hRr := C.2.2.2.2.2.2.2.2.2.1
  intro M t0 a1 a2 a3 r M' hf H locs ls ht0 hw hl
  unfold f_X6_fewestPegs_75 at hf
  obtain ⟨v10, ev10, hf⟩ := cl_let_e hf
  refine lv_iinc (v := v10) (lv' := [(3, .int v10), (0, .ref (b + t0)), (1, .int a1), (2, .int a2)]) hx hb dX6_fewestPegs_75 hl (k := 3) rfl (by rw [ev10]; rfl) (by decide) rfl (fun ls hl => ?_)
  refine lv_goto (tgt := 19) hx hb dX6_fewestPegs_78 (by decide) ?_
  exact hr19 M t0 a1 a2 v10 _ _ hf _ _ _ ht0 hw (lv_sub hl [1, 2, 3, 0] rfl)
def f_X6_fewestPegs_51 (r12 : cl_M → Nat → Int32 → Int32 → Option (Int32 × cl_M)) (r19 : cl_M → Nat → Int32 → Int32 → Int32 → Option (Int32 × cl_M)) (M : cl_M) (t0 : Nat) (a1 : Int32) (a2 : Int32) (a3 : Int32) (z0 : Int32) : Option (Int32 × cl_M) := if z0 = 0 then f_X6_fewestPegs_75 r12 r19 M t0 a1 a2 a3 else (f_X6_weight M t0 a1).bind (fun v11 => (f_X6_holdBy M (a2 - a3) a3).bind (fun v13 => if v13 < v11 then f_X6_fewestPegs_75 r12 r19 M t0 a1 a2 a3 else some (a2, M)))
set_option maxHeartbeats 4000000 in
set_option maxRecDepth 100000 in
theorem k_X6_fewestPegs_51 {p : Program} {l : Launch} {e : Env} {s : State} {m : MethodId} {args : Array Value} {below : List Frame} {meth : Method} {c : Code} {dd : cl_D} {b : Nat} (C : cl_C p l s m args meth c cX6_fewestPegs RX6 5 (some .int) dd b) {r12 : cl_M → Nat → Int32 → Int32 → Option (Int32 × cl_M)} (hr12 : ∀ (M : cl_M) (t0 : Nat) (a1 : Int32) (a2 : Int32) (r : Int32) (M' : cl_M), r12 M t0 a1 a2 = some (r, M') → ∀ (H : Heap) (locs : List Loc) (ls : Array Slot), cl_sh dd t0 = 6 → cl_H dd b M s H locs → lv_has ls 5 [(0, .ref (b + t0)), (1, .int a1), (2, .int a2)] → W p l e { frames := 2, cells := 0, slots := 0, locals := 43 } s m args below meth c H locs 0 0 (cl_Zi below args s dd b r M') (F0 m 12 ls [])) {r19 : cl_M → Nat → Int32 → Int32 → Int32 → Option (Int32 × cl_M)} (hr19 : ∀ (M : cl_M) (t0 : Nat) (a1 : Int32) (a2 : Int32) (a3 : Int32) (r : Int32) (M' : cl_M), r19 M t0 a1 a2 a3 = some (r, M') → ∀ (H : Heap) (locs : List Loc) (ls : Array Slot), cl_sh dd t0 = 6 → cl_H dd b M s H locs → lv_has ls 5 [(0, .ref (b + t0)), (1, .int a1), (2, .int a2), (3, .int a3)] → W p l e { frames := 2, cells := 0, slots := 0, locals := 43 } s m args below meth c H locs 0 0 (cl_Zi below args s dd b r M') (F0 m 19 ls [])) : ∀ (M : cl_M) (t0 : Nat) (a1 : Int32) (a2 : Int32) (a3 : Int32) (z0 : Int32) (r : Int32) (M' : cl_M), f_X6_fewestPegs_51 r12 r19 M t0 a1 a2 a3 z0 = some (r, M') → ∀ (H : Heap) (locs : List Loc) (ls : Array Slot), cl_sh dd t0 = 6 → cl_H dd b M s H locs → lv_has ls 5 [(0, .ref (b + t0)), (1, .int a1), (2, .int a2), (3, .int a3)] → W p l e { frames := 2, cells := 0, slots := 0, locals := 43 } s m args below meth c H locs 0 0 (cl_Zi below args s dd b r M') (F0 m 51 ls [.int z0]) := by
  have hx := C.1
  have hb := C.2.1
  have hlt := C.2.2.2.2.2.2.2.2.2.2
  have hRr := C.2.2.2.2.2.2.2.2.2.1
  intro M t0 a1 a2 a3 z0 r M' hf H locs ls ht0 hw hl
  unfold f_X6_fewestPegs_51 at hf
  refine lv_istore (lv' := [(4, .int z0), (0, .ref (b + t0)), (1, .int a1), (2, .int a2), (3, .int a3)]) hx hb dX6_fewestPegs_51 hl (by decide) rfl (fun ls hl => ?_)
  refine lv_iload hx hb dX6_fewestPegs_53 (lv_at hl 0 rfl) ?_
  refine lv_if_eq (tgt := 75) hx hb dX6_fewestPegs_55 (by decide) (fun c9 => ?_) (fun c9 => ?_)
  · have hf := cl_yes c9 hf
    exact k_X6_fewestPegs_75 C hr12 hr19 M t0 a1 a2 a3 _ _ hf _ _ _ ht0 hw (lv_sub hl [1, 2, 3, 4] rfl)
  · have hf := cl_no c9 hf
    refine lv_aload_n hx hb dX6_fewestPegs_58 rfl (lv_at hl 1 rfl) ?_
    refine lv_iload_n hx hb dX6_fewestPegs_59 rfl (lv_at hl 2 rfl) ?_
    obtain ⟨v11, e12, hf⟩ := cl_bind_e hf
    refine cr_Vi C hw (c_X6_weight hlt ht0 e12) cy_X6_weight vy_X6_weight ml_X6_103 (cl_lt ht0 (by decide)) (cl_e6 ht0) rfl rfl (As := [.int a1]) rfl hl.1 rfl ⟨⟨Nat.le_of_ble_eq_true rfl, Nat.le_of_ble_eq_true rfl⟩, Nat.le_of_ble_eq_true rfl, Nat.le_of_ble_eq_true rfl, Nat.le_of_ble_eq_true rfl⟩ dX6_fewestPegs_60 (fun H locs hw => ?_)
    refine lv_iload_n hx hb dX6_fewestPegs_63 rfl (lv_at hl 3 rfl) ?_
    refine lv_iload_n hx hb dX6_fewestPegs_64 rfl (lv_at hl 4 rfl) ?_
    refine lv_isub hx hb dX6_fewestPegs_65 ?_
    refine lv_iload_n hx hb dX6_fewestPegs_66 rfl (lv_at hl 4 rfl) ?_
    obtain ⟨v13, e14, hf⟩ := cl_bind_e hf
    refine cr_Si C hw (c_X6_holdBy hlt e14) cy_X6_holdBy st_X6_holdBy ml_X6_94 (As := [.int (a2 - a3), .int a3]) rfl hl.1 rfl ⟨⟨Nat.le_of_ble_eq_true rfl, Nat.le_of_ble_eq_true rfl⟩, Nat.le_of_ble_eq_true rfl, Nat.le_of_ble_eq_true rfl, Nat.le_of_ble_eq_true rfl⟩ dX6_fewestPegs_67 (fun H locs hw => ?_)
    refine lv_icmp_gt (tgt := 75) hx hb dX6_fewestPegs_70 (by decide) (fun c15 => ?_) (fun c15 => ?_)
    · have hf := cl_yes c15 hf
      exact k_X6_fewestPegs_75 C hr12 hr19 M t0 a1 a2 a3 _ _ hf _ _ _ ht0 hw (lv_sub hl [1, 2, 3, 4] rfl)
    · have hf := cl_no c15 hf
      refine lv_iload_n hx hb dX6_fewestPegs_73 rfl (lv_at hl 3 rfl) ?_
      obtain ⟨rfl, rfl⟩ := cl_pair hf
      exact cr_reti C hw dX6_fewestPegs_74
def f_X6_fewestPegs_50 (r12 : cl_M → Nat → Int32 → Int32 → Option (Int32 × cl_M)) (r19 : cl_M → Nat → Int32 → Int32 → Int32 → Option (Int32 × cl_M)) (M : cl_M) (t0 : Nat) (a1 : Int32) (a2 : Int32) (a3 : Int32) : Option (Int32 × cl_M) := f_X6_fewestPegs_51 r12 r19 M t0 a1 a2 a3 0
set_option maxHeartbeats 4000000 in
set_option maxRecDepth 100000 in
theorem k_X6_fewestPegs_50 {p : Program} {l : Launch} {e : Env} {s : State} {m : MethodId} {args : Array Value} {below : List Frame} {meth : Method} {c : Code} {dd : cl_D} {b : Nat} (C : cl_C p l s m args meth c cX6_fewestPegs RX6 5 (some .int) dd b) {r12 : cl_M → Nat → Int32 → Int32 → Option (Int32 × cl_M)} (hr12 : ∀ (M : cl_M) (t0 : Nat) (a1 : Int32) (a2 : Int32) (r : Int32) (M' : cl_M), r12 M t0 a1 a2 = some (r, M') → ∀ (H : Heap) (locs : List Loc) (ls : Array Slot), cl_sh dd t0 = 6 → cl_H dd b M s H locs → lv_has ls 5 [(0, .ref (b + t0)), (1, .int a1), (2, .int a2)] → W p l e { frames := 2, cells := 0, slots := 0, locals := 43 } s m args below meth c H locs 0 0 (cl_Zi below args s dd b r M') (F0 m 12 ls [])) {r19 : cl_M → Nat → Int32 → Int32 → Int32 → Option (Int32 × cl_M)} (hr19 : ∀ (M : cl_M) (t0 : Nat) (a1 : Int32) (a2 : Int32) (a3 : Int32) (r : Int32) (M' : cl_M), r19 M t0 a1 a2 a3 = some (r, M') → ∀ (H : Heap) (locs : List Loc) (ls : Array Slot), cl_sh dd t0 = 6 → cl_H dd b M s H locs → lv_has ls 5 [(0, .ref (b + t0)), (1, .int a1), (2, .int a2), (3, .int a3)] → W p l e { frames := 2, cells := 0, slots := 0, locals := 43 } s m args below meth c H locs 0 0 (cl_Zi below args s dd b r M') (F0 m 19 ls [])) : ∀ (M : cl_M) (t0 : Nat) (a1 : Int32) (a2 : Int32) (a3 : Int32) (r : Int32) (M' : cl_M), f_X6_fewestPegs_50 r12 r19 M t0 a1 a2 a3 = some (r, M') → ∀ (H : Heap) (locs : List Loc) (ls : Array Slot), cl_sh dd t0 = 6 → cl_H dd b M s H locs → lv_has ls 5 [(0, .ref (b + t0)), (1, .int a1), (2, .int a2), (3, .int a3)] → W p l e { frames := 2, cells := 0, slots := 0, locals := 43 } s m args below meth c H locs 0 0 (cl_Zi below args s dd b r M') (F0 m 50 ls []) := by
  have hx := C.1
  have hb := C.2.1
  have hlt := C.2.2.2.2.2.2.2.2.2.2
  have hRr := C.2.2.2.2.2.2.2.2.2.1
  intro M t0 a1 a2 a3 r M' hf H locs ls ht0 hw hl
  unfold f_X6_fewestPegs_50 at hf
  refine lv_iconst (v := 0) hx hb dX6_fewestPegs_50 (by decide) ?_
  exact k_X6_fewestPegs_51 C hr12 hr19 M t0 a1 a2 a3 0 _ _ hf _ _ _ ht0 hw (lv_sub hl [0, 1, 2, 3] rfl)
def f_X6_fewestPegs_19 (r12 : cl_M → Nat → Int32 → Int32 → Option (Int32 × cl_M)) : Nat → cl_M → Nat → Int32 → Int32 → Int32 → Option (Int32 × cl_M)
  | 0, _, _, _, _, _ => none
  | k + 1, M, t0, a1, a2, a3 => if a2 < a3 then cl_let (a2 + 1) (fun v7 => r12 M t0 a1 v7) else if (M (t0 + 2) 3) < a3 then f_X6_fewestPegs_50 r12 (f_X6_fewestPegs_19 r12 k) M t0 a1 a2 a3 else if (M (t0 + 2) 2) < (a2 - a3) then f_X6_fewestPegs_50 r12 (f_X6_fewestPegs_19 r12 k) M t0 a1 a2 a3 else f_X6_fewestPegs_51 r12 (f_X6_fewestPegs_19 r12 k) M t0 a1 a2 a3 1
set_option maxHeartbeats 4000000 in
set_option maxRecDepth 100000 in
theorem k_X6_fewestPegs_19 {p : Program} {l : Launch} {e : Env} {s : State} {m : MethodId} {args : Array Value} {below : List Frame} {meth : Method} {c : Code} {dd : cl_D} {b : Nat} (C : cl_C p l s m args meth c cX6_fewestPegs RX6 5 (some .int) dd b) {r12 : cl_M → Nat → Int32 → Int32 → Option (Int32 × cl_M)} (hr12 : ∀ (M : cl_M) (t0 : Nat) (a1 : Int32) (a2 : Int32) (r : Int32) (M' : cl_M), r12 M t0 a1 a2 = some (r, M') → ∀ (H : Heap) (locs : List Loc) (ls : Array Slot), cl_sh dd t0 = 6 → cl_H dd b M s H locs → lv_has ls 5 [(0, .ref (b + t0)), (1, .int a1), (2, .int a2)] → W p l e { frames := 2, cells := 0, slots := 0, locals := 43 } s m args below meth c H locs 0 0 (cl_Zi below args s dd b r M') (F0 m 12 ls [])) : ∀ (k : Nat), ∀ (M : cl_M) (t0 : Nat) (a1 : Int32) (a2 : Int32) (a3 : Int32) (r : Int32) (M' : cl_M), f_X6_fewestPegs_19 r12 k M t0 a1 a2 a3 = some (r, M') → ∀ (H : Heap) (locs : List Loc) (ls : Array Slot), cl_sh dd t0 = 6 → cl_H dd b M s H locs → lv_has ls 5 [(0, .ref (b + t0)), (1, .int a1), (2, .int a2), (3, .int a3)] → W p l e { frames := 2, cells := 0, slots := 0, locals := 43 } s m args below meth c H locs 0 0 (cl_Zi below args s dd b r M') (F0 m 19 ls []) := by
  have hx := C.1
  have hb := C.2.1
  have hlt := C.2.2.2.2.2.2.2.2.2.2
  have hRr := C.2.2.2.2.2.2.2.2.2.1
  intro k
  induction k with
  | zero =>
    intro M t0 a1 a2 a3 r M' hf H locs ls ht0 hw hl
    rw [f_X6_fewestPegs_19] at hf
    cases hf
  | succ k ih =>
    intro M t0 a1 a2 a3 r M' hf H locs ls ht0 hw hl
    rw [f_X6_fewestPegs_19] at hf
    refine lv_iload_n hx hb dX6_fewestPegs_19 rfl (lv_at hl 3 rfl) ?_
    refine lv_iload_n hx hb dX6_fewestPegs_20 rfl (lv_at hl 2 rfl) ?_
    refine lv_icmp_gt (tgt := 81) hx hb dX6_fewestPegs_21 (by decide) (fun c6 => ?_) (fun c6 => ?_)
    · have hf := cl_yes c6 hf
      obtain ⟨v7, ev7, hf⟩ := cl_let_e hf
      refine lv_iinc (v := v7) (lv' := [(2, .int v7), (0, .ref (b + t0)), (1, .int a1), (3, .int a3)]) hx hb dX6_fewestPegs_81 hl (k := 2) rfl (by rw [ev7]; rfl) (by decide) rfl (fun ls hl => ?_)
      refine lv_goto (tgt := 12) hx hb dX6_fewestPegs_84 (by decide) ?_
      exact hr12 M t0 a1 v7 _ _ hf _ _ _ ht0 hw (lv_sub hl [1, 2, 0] rfl)
    · have hf := cl_no c6 hf
      refine lv_iload_n hx hb dX6_fewestPegs_24 rfl (lv_at hl 3 rfl) ?_
      refine lv_aload_n hx hb dX6_fewestPegs_25 rfl (lv_at hl 0 rfl) ?_
      refine fg_X6_17 C hw ht0 dX6_fewestPegs_26 ?_
      refine lv_iconst (v := 3) hx hb dX6_fewestPegs_29 (by decide) ?_
      refine cr_iald C hw (sh_6_5 ht0).1 (sh_6_5 ht0).2 (by decide) (k := 3) rfl dX6_fewestPegs_30 ?_
      refine lv_icmp_gt (tgt := 50) hx hb dX6_fewestPegs_31 (by decide) (fun c8 => ?_) (fun c8 => ?_)
      · have hf := cl_yes c8 hf
        exact k_X6_fewestPegs_50 C hr12 ih M t0 a1 a2 a3 _ _ hf _ _ _ ht0 hw (lv_sub hl [0, 1, 2, 3] rfl)
      · have hf := cl_no c8 hf
        refine lv_iload_n hx hb dX6_fewestPegs_34 rfl (lv_at hl 2 rfl) ?_
        refine lv_iload_n hx hb dX6_fewestPegs_35 rfl (lv_at hl 3 rfl) ?_
        refine lv_isub hx hb dX6_fewestPegs_36 ?_
        refine lv_aload_n hx hb dX6_fewestPegs_37 rfl (lv_at hl 0 rfl) ?_
        refine fg_X6_17 C hw ht0 dX6_fewestPegs_38 ?_
        refine lv_iconst (v := 2) hx hb dX6_fewestPegs_41 (by decide) ?_
        refine cr_iald C hw (sh_6_5 ht0).1 (sh_6_5 ht0).2 (by decide) (k := 2) rfl dX6_fewestPegs_42 ?_
        refine lv_icmp_gt (tgt := 50) hx hb dX6_fewestPegs_43 (by decide) (fun c16 => ?_) (fun c16 => ?_)
        · have hf := cl_yes c16 hf
          exact k_X6_fewestPegs_50 C hr12 ih M t0 a1 a2 a3 _ _ hf _ _ _ ht0 hw (lv_sub hl [0, 1, 2, 3] rfl)
        · have hf := cl_no c16 hf
          refine lv_iconst (v := 1) hx hb dX6_fewestPegs_46 (by decide) ?_
          refine lv_goto (tgt := 51) hx hb dX6_fewestPegs_47 (by decide) ?_
          exact k_X6_fewestPegs_51 C hr12 ih M t0 a1 a2 a3 1 _ _ hf _ _ _ ht0 hw (lv_sub hl [0, 1, 2, 3] rfl)
def f_X6_fewestPegs_12 : Nat → cl_M → Nat → Int32 → Int32 → Option (Int32 × cl_M)
  | 0, _, _, _, _ => none
  | k + 1, M, t0, a1, a2 => if 4 < a2 then some ((-1), M) else f_X6_fewestPegs_19 (f_X6_fewestPegs_12 k) cl_F M t0 a1 a2 0
set_option maxHeartbeats 4000000 in
set_option maxRecDepth 100000 in
theorem k_X6_fewestPegs_12 {p : Program} {l : Launch} {e : Env} {s : State} {m : MethodId} {args : Array Value} {below : List Frame} {meth : Method} {c : Code} {dd : cl_D} {b : Nat} (C : cl_C p l s m args meth c cX6_fewestPegs RX6 5 (some .int) dd b) : ∀ (k : Nat), ∀ (M : cl_M) (t0 : Nat) (a1 : Int32) (a2 : Int32) (r : Int32) (M' : cl_M), f_X6_fewestPegs_12 k M t0 a1 a2 = some (r, M') → ∀ (H : Heap) (locs : List Loc) (ls : Array Slot), cl_sh dd t0 = 6 → cl_H dd b M s H locs → lv_has ls 5 [(0, .ref (b + t0)), (1, .int a1), (2, .int a2)] → W p l e { frames := 2, cells := 0, slots := 0, locals := 43 } s m args below meth c H locs 0 0 (cl_Zi below args s dd b r M') (F0 m 12 ls []) := by
  have hx := C.1
  have hb := C.2.1
  have hlt := C.2.2.2.2.2.2.2.2.2.2
  have hRr := C.2.2.2.2.2.2.2.2.2.1
  intro k
  induction k with
  | zero =>
    intro M t0 a1 a2 r M' hf H locs ls ht0 hw hl
    rw [f_X6_fewestPegs_12] at hf
    cases hf
  | succ k ih =>
    intro M t0 a1 a2 r M' hf H locs ls ht0 hw hl
    rw [f_X6_fewestPegs_12] at hf
    refine lv_iload_n hx hb dX6_fewestPegs_12 rfl (lv_at hl 2 rfl) ?_
    refine lv_iconst (v := 4) hx hb dX6_fewestPegs_13 (by decide) ?_
    refine lv_icmp_gt (tgt := 87) hx hb dX6_fewestPegs_14 (by decide) (fun c5 => ?_) (fun c5 => ?_)
    · have hf := cl_yes c5 hf
      refine lv_iconst (v := (-1)) hx hb dX6_fewestPegs_87 (by decide) ?_
      obtain ⟨rfl, rfl⟩ := cl_pair hf
      exact cr_reti C hw dX6_fewestPegs_88
    · have hf := cl_no c5 hf
      refine lv_iconst (v := 0) hx hb dX6_fewestPegs_17 (by decide) ?_
      refine lv_istore_n (lv' := [(3, .int 0), (0, .ref (b + t0)), (1, .int a1), (2, .int a2)]) hx hb dX6_fewestPegs_18 rfl hl (by decide) rfl (fun ls hl => ?_)
      exact k_X6_fewestPegs_19 C ih cl_F M t0 a1 a2 0 _ _ hf _ _ _ ht0 hw (lv_sub hl [1, 2, 3, 0] rfl)
def f_X6_fewestPegs (M : cl_M) (t0 : Nat) (a1 : Int32) : Option (Int32 × cl_M) := cl_b2 (f_X6_isGarment M t0 a1) (fun v1 M2 => if v1 = 0 then some (0, M2) else f_X6_fewestPegs_12 cl_F M2 t0 a1 1)
set_option maxHeartbeats 4000000 in
set_option maxRecDepth 100000 in
theorem k_X6_fewestPegs {p : Program} {l : Launch} {e : Env} {s : State} {m : MethodId} {args : Array Value} {below : List Frame} {meth : Method} {c : Code} {dd : cl_D} {b : Nat} (C : cl_C p l s m args meth c cX6_fewestPegs RX6 5 (some .int) dd b) : ∀ (M : cl_M) (t0 : Nat) (a1 : Int32) (r : Int32) (M' : cl_M), f_X6_fewestPegs M t0 a1 = some (r, M') → ∀ (H : Heap) (locs : List Loc) (ls : Array Slot), cl_sh dd t0 = 6 → cl_H dd b M s H locs → lv_has ls 5 [(0, .ref (b + t0)), (1, .int a1)] → W p l e { frames := 2, cells := 0, slots := 0, locals := 43 } s m args below meth c H locs 0 0 (cl_Zi below args s dd b r M') (F0 m 0 ls []) := by
  have hx := C.1
  have hb := C.2.1
  have hlt := C.2.2.2.2.2.2.2.2.2.2
  have hRr := C.2.2.2.2.2.2.2.2.2.1
  intro M t0 a1 r M' hf H locs ls ht0 hw hl
  unfold f_X6_fewestPegs at hf
  refine lv_aload_n hx hb dX6_fewestPegs_0 rfl (lv_at hl 0 rfl) ?_
  refine lv_iload_n hx hb dX6_fewestPegs_1 rfl (lv_at hl 1 rfl) ?_
  obtain ⟨v1, M2, e3, hf⟩ := cl_b2_e hf
  refine cr_Vi C hw (c_X6_isGarment hlt ht0 e3) cy_X6_isGarment vy_X6_isGarment ml_X6_332 (cl_lt ht0 (by decide)) (cl_e6 ht0) rfl rfl (As := [.int a1]) rfl hl.1 rfl ⟨⟨Nat.le_of_ble_eq_true rfl, Nat.le_of_ble_eq_true rfl⟩, Nat.le_of_ble_eq_true rfl, Nat.le_of_ble_eq_true rfl, Nat.le_of_ble_eq_true rfl⟩ dX6_fewestPegs_2 (fun H locs hw => ?_)
  refine lv_if_ne (tgt := 10) hx hb dX6_fewestPegs_5 (by decide) (fun c4 => ?_) (fun c4 => ?_)
  · have hf := cl_no c4 hf
    refine lv_iconst (v := 1) hx hb dX6_fewestPegs_10 (by decide) ?_
    refine lv_istore_n (lv' := [(2, .int 1), (0, .ref (b + t0)), (1, .int a1)]) hx hb dX6_fewestPegs_11 rfl hl (by decide) rfl (fun ls hl => ?_)
    exact k_X6_fewestPegs_12 C cl_F M2 t0 a1 1 _ _ hf _ _ _ ht0 hw (lv_sub hl [1, 2, 0] rfl)
  · have hf := cl_yes c4 hf
    refine lv_iconst (v := 0) hx hb dX6_fewestPegs_8 (by decide) ?_
    obtain ⟨rfl, rfl⟩ := cl_pair hf
    exact cr_reti C hw dX6_fewestPegs_9
set_option maxRecDepth 100000 in
theorem c_X6_fewestPegs {l : Launch} {dd : cl_D} {b : Nat} (hlt : l.stackTraces = false) {M : cl_M} {t0 : Nat} {a1 : Int32}  {r : Int32} {M' : cl_M} (ht0 : cl_sh dd t0 = 6) (h : f_X6_fewestPegs M t0 a1 = some (r, M')) : cl_Mi l dd b yX6_fewestPegs cX6_fewestPegs 5 (some .int) 2 43 [.ref (b + t0), .int a1] M r M' :=
  cl_of hlt (by decide) (Nat.le_of_ble_eq_true rfl) (fun p e s m below meth c ls C hw hl => k_X6_fewestPegs C M t0 a1 r M' h _ _ _ ht0 hw (lv_sub hl [0, 1] rfl))
theorem cy_X6_fewestPegs : cl_cy yX6_fewestPegs cX6_fewestPegs 5 (some .int) 1 := ⟨in_ClothesLineModel, cd_X6_fewestPegs, by decide +kernel, by decide +kernel, by decide +kernel⟩
theorem vy_X6_fewestPegs : cl_vy yX6_fewestPegs := ⟨im_X6_fewestPegs, se_X6_fewestPegs⟩
def f_X6_allWater_4 : Nat → cl_M → Nat → Int32 → Int32 → Option (Int32)
  | 0, _, _, _, _ => none
  | k + 1, M, t0, a1, a2 => if (M (t0 + 2) 7) ≤ a2 then some a1 else (f_X6_of M t0 a2 3).bind (fun v2 => cl_let (a1 + v2) (fun v4 => cl_let (a2 + 1) (fun v5 => f_X6_allWater_4 k M t0 v4 v5)))
set_option maxHeartbeats 4000000 in
set_option maxRecDepth 100000 in
theorem k_X6_allWater_4 {p : Program} {l : Launch} {e : Env} {s : State} {m : MethodId} {args : Array Value} {below : List Frame} {meth : Method} {c : Code} {dd : cl_D} {b : Nat} (C : cl_C p l s m args meth c cX6_allWater RX6 3 (some .int) dd b) : ∀ (k : Nat), ∀ (M : cl_M) (t0 : Nat) (a1 : Int32) (a2 : Int32) (r : Int32), f_X6_allWater_4 k M t0 a1 a2 = some r → ∀ (H : Heap) (locs : List Loc) (ls : Array Slot), cl_sh dd t0 = 6 → cl_H dd b M s H locs → lv_has ls 3 [(0, .ref (b + t0)), (1, .int a1), (2, .int a2)] → W p l e { frames := 1, cells := 0, slots := 0, locals := 22 } s m args below meth c H locs 0 0 (cl_Zi below args s dd b r M) (F0 m 4 ls []) := by
  have hx := C.1
  have hb := C.2.1
  have hlt := C.2.2.2.2.2.2.2.2.2.2
  have hRr := C.2.2.2.2.2.2.2.2.2.1
  intro k
  induction k with
  | zero =>
    intro M t0 a1 a2 r hf H locs ls ht0 hw hl
    rw [f_X6_allWater_4] at hf
    cases hf
  | succ k ih =>
    intro M t0 a1 a2 r hf H locs ls ht0 hw hl
    rw [f_X6_allWater_4] at hf
    refine lv_iload_n hx hb dX6_allWater_4 rfl (lv_at hl 2 rfl) ?_
    refine lv_aload_n hx hb dX6_allWater_5 rfl (lv_at hl 0 rfl) ?_
    refine fg_X6_17 C hw ht0 dX6_allWater_6 ?_
    refine lv_bipush (v := 7) hx hb dX6_allWater_9 (by decide) ?_
    refine cr_iald C hw (sh_6_5 ht0).1 (sh_6_5 ht0).2 (by decide) (k := 7) rfl dX6_allWater_11 ?_
    refine lv_icmp_ge (tgt := 30) hx hb dX6_allWater_12 (by decide) (fun c1 => ?_) (fun c1 => ?_)
    · have hf := cl_yes c1 hf
      refine lv_iload_n hx hb dX6_allWater_30 rfl (lv_at hl 1 rfl) ?_
      obtain rfl := Option.some.inj hf
      exact cr_reti C hw dX6_allWater_31
    · have hf := cl_no c1 hf
      refine lv_iload_n hx hb dX6_allWater_15 rfl (lv_at hl 1 rfl) ?_
      refine lv_aload_n hx hb dX6_allWater_16 rfl (lv_at hl 0 rfl) ?_
      refine lv_iload_n hx hb dX6_allWater_17 rfl (lv_at hl 2 rfl) ?_
      refine lv_iconst (v := 3) hx hb dX6_allWater_18 (by decide) ?_
      obtain ⟨v2, e3, hf⟩ := cl_bind_e hf
      refine cr_Vi C hw (c_X6_of hlt ht0 e3) cy_X6_of vy_X6_of ml_X6_81 (cl_lt ht0 (by decide)) (cl_e6 ht0) rfl rfl (As := [.int a2, .int 3]) rfl hl.1 rfl ⟨⟨Nat.le_of_ble_eq_true rfl, Nat.le_of_ble_eq_true rfl⟩, Nat.le_of_ble_eq_true rfl, Nat.le_of_ble_eq_true rfl, Nat.le_of_ble_eq_true rfl⟩ dX6_allWater_19 (fun H locs hw => ?_)
      refine lv_iadd hx hb dX6_allWater_22 ?_
      obtain ⟨v4, ev4, hf⟩ := cl_let_e hf
      refine cr_top ev4 ?_
      refine lv_istore_n (lv' := [(1, .int v4), (0, .ref (b + t0)), (2, .int a2)]) hx hb dX6_allWater_23 rfl hl (by decide) rfl (fun ls hl => ?_)
      obtain ⟨v5, ev5, hf⟩ := cl_let_e hf
      refine lv_iinc (v := v5) (lv' := [(2, .int v5), (1, .int v4), (0, .ref (b + t0))]) hx hb dX6_allWater_24 hl (k := 2) rfl (by rw [ev5]; rfl) (by decide) rfl (fun ls hl => ?_)
      refine lv_goto (tgt := 4) hx hb dX6_allWater_27 (by decide) ?_
      exact ih M t0 v4 v5 _ hf _ _ _ ht0 hw (lv_sub hl [2, 1, 0] rfl)
def f_X6_allWater (M : cl_M) (t0 : Nat) : Option (Int32) := f_X6_allWater_4 cl_F M t0 0 0
set_option maxHeartbeats 4000000 in
set_option maxRecDepth 100000 in
theorem k_X6_allWater {p : Program} {l : Launch} {e : Env} {s : State} {m : MethodId} {args : Array Value} {below : List Frame} {meth : Method} {c : Code} {dd : cl_D} {b : Nat} (C : cl_C p l s m args meth c cX6_allWater RX6 3 (some .int) dd b) : ∀ (M : cl_M) (t0 : Nat) (r : Int32), f_X6_allWater M t0 = some r → ∀ (H : Heap) (locs : List Loc) (ls : Array Slot), cl_sh dd t0 = 6 → cl_H dd b M s H locs → lv_has ls 3 [(0, .ref (b + t0))] → W p l e { frames := 1, cells := 0, slots := 0, locals := 22 } s m args below meth c H locs 0 0 (cl_Zi below args s dd b r M) (F0 m 0 ls []) := by
  have hx := C.1
  have hb := C.2.1
  have hlt := C.2.2.2.2.2.2.2.2.2.2
  have hRr := C.2.2.2.2.2.2.2.2.2.1
  intro M t0 r hf H locs ls ht0 hw hl
  unfold f_X6_allWater at hf
  refine lv_iconst (v := 0) hx hb dX6_allWater_0 (by decide) ?_
  refine lv_istore_n (lv' := [(1, .int 0), (0, .ref (b + t0))]) hx hb dX6_allWater_1 rfl hl (by decide) rfl (fun ls hl => ?_)
  refine lv_iconst (v := 0) hx hb dX6_allWater_2 (by decide) ?_
  refine lv_istore_n (lv' := [(2, .int 0), (1, .int 0), (0, .ref (b + t0))]) hx hb dX6_allWater_3 rfl hl (by decide) rfl (fun ls hl => ?_)
  exact k_X6_allWater_4 C cl_F M t0 0 0 _ hf _ _ _ ht0 hw (lv_sub hl [2, 1, 0] rfl)
set_option maxRecDepth 100000 in
theorem c_X6_allWater {l : Launch} {dd : cl_D} {b : Nat} (hlt : l.stackTraces = false) {M : cl_M} {t0 : Nat}  {r : Int32} (ht0 : cl_sh dd t0 = 6) (h : f_X6_allWater M t0 = some r) : cl_Mi l dd b yX6_allWater cX6_allWater 3 (some .int) 1 22 [.ref (b + t0)] M r M :=
  cl_of hlt (by decide) (Nat.le_of_ble_eq_true rfl) (fun p e s m below meth c ls C hw hl => k_X6_allWater C M t0 r h _ _ _ ht0 hw (lv_sub hl [0] rfl))
theorem cy_X6_allWater : cl_cy yX6_allWater cX6_allWater 3 (some .int) 0 := ⟨in_ClothesLineModel, cd_X6_allWater, by decide +kernel, by decide +kernel, by decide +kernel⟩
theorem vy_X6_allWater : cl_vy yX6_allWater := ⟨im_X6_allWater, se_X6_allWater⟩
def f_X6_waterInAll (M : cl_M) (t0 : Nat) : Option (Int32 × cl_M) := (f_X6_allWater M t0).bind (fun v1 => cl_b2 (f_X6_plain M t0 v1) (fun v3 M4 => some (v3, M4)))
set_option maxHeartbeats 4000000 in
set_option maxRecDepth 100000 in
theorem k_X6_waterInAll {p : Program} {l : Launch} {e : Env} {s : State} {m : MethodId} {args : Array Value} {below : List Frame} {meth : Method} {c : Code} {dd : cl_D} {b : Nat} (C : cl_C p l s m args meth c cX6_waterInAll RX6 1 (some .int) dd b) : ∀ (M : cl_M) (t0 : Nat) (r : Int32) (M' : cl_M), f_X6_waterInAll M t0 = some (r, M') → ∀ (H : Heap) (locs : List Loc) (ls : Array Slot), cl_sh dd t0 = 6 → cl_H dd b M s H locs → lv_has ls 1 [(0, .ref (b + t0))] → W p l e { frames := 2, cells := 0, slots := 0, locals := 44 } s m args below meth c H locs 0 0 (cl_Zi below args s dd b r M') (F0 m 0 ls []) := by
  have hx := C.1
  have hb := C.2.1
  have hlt := C.2.2.2.2.2.2.2.2.2.2
  have hRr := C.2.2.2.2.2.2.2.2.2.1
  intro M t0 r M' hf H locs ls ht0 hw hl
  unfold f_X6_waterInAll at hf
  refine lv_aload_n hx hb dX6_waterInAll_0 rfl (lv_at hl 0 rfl) ?_
  refine lv_aload_n hx hb dX6_waterInAll_1 rfl (lv_at hl 0 rfl) ?_
  obtain ⟨v1, e2, hf⟩ := cl_bind_e hf
  refine cr_Vi C hw (c_X6_allWater hlt ht0 e2) cy_X6_allWater vy_X6_allWater ml_X6_345 (cl_lt ht0 (by decide)) (cl_e6 ht0) rfl rfl (As := []) rfl hl.1 rfl ⟨⟨Nat.le_of_ble_eq_true rfl, Nat.le_of_ble_eq_true rfl⟩, Nat.le_of_ble_eq_true rfl, Nat.le_of_ble_eq_true rfl, Nat.le_of_ble_eq_true rfl⟩ dX6_waterInAll_2 (fun H locs hw => ?_)
  obtain ⟨v3, M4, e5, hf⟩ := cl_b2_e hf
  refine cr_Vi C hw (c_X6_plain hlt ht0 e5) cy_X6_plain vy_X6_plain ml_X6_310 (cl_lt ht0 (by decide)) (cl_e6 ht0) rfl rfl (As := [.int v1]) rfl hl.1 rfl ⟨⟨Nat.le_of_ble_eq_true rfl, Nat.le_of_ble_eq_true rfl⟩, Nat.le_of_ble_eq_true rfl, Nat.le_of_ble_eq_true rfl, Nat.le_of_ble_eq_true rfl⟩ dX6_waterInAll_5 (fun H locs hw => ?_)
  obtain ⟨rfl, rfl⟩ := cl_pair hf
  exact cr_reti C hw dX6_waterInAll_8
set_option maxRecDepth 100000 in
theorem c_X6_waterInAll {l : Launch} {dd : cl_D} {b : Nat} (hlt : l.stackTraces = false) {M : cl_M} {t0 : Nat}  {r : Int32} {M' : cl_M} (ht0 : cl_sh dd t0 = 6) (h : f_X6_waterInAll M t0 = some (r, M')) : cl_Mi l dd b yX6_waterInAll cX6_waterInAll 1 (some .int) 2 44 [.ref (b + t0)] M r M' :=
  cl_of hlt (by decide) (Nat.le_of_ble_eq_true rfl) (fun p e s m below meth c ls C hw hl => k_X6_waterInAll C M t0 r M' h _ _ _ ht0 hw (lv_sub hl [0] rfl))
theorem cy_X6_waterInAll : cl_cy yX6_waterInAll cX6_waterInAll 1 (some .int) 0 := ⟨in_ClothesLineModel, cd_X6_waterInAll, by decide +kernel, by decide +kernel, by decide +kernel⟩
theorem vy_X6_waterInAll : cl_vy yX6_waterInAll := ⟨im_X6_waterInAll, se_X6_waterInAll⟩
def f_X6_waterCame (M : cl_M) (t0 : Nat) : Option (Int32 × cl_M) := cl_b2 (f_X6_plain M t0 (M (t0 + 2) 8)) (fun v1 M2 => some (v1, M2))
set_option maxHeartbeats 4000000 in
set_option maxRecDepth 100000 in
theorem k_X6_waterCame {p : Program} {l : Launch} {e : Env} {s : State} {m : MethodId} {args : Array Value} {below : List Frame} {meth : Method} {c : Code} {dd : cl_D} {b : Nat} (C : cl_C p l s m args meth c cX6_waterCame RX6 1 (some .int) dd b) : ∀ (M : cl_M) (t0 : Nat) (r : Int32) (M' : cl_M), f_X6_waterCame M t0 = some (r, M') → ∀ (H : Heap) (locs : List Loc) (ls : Array Slot), cl_sh dd t0 = 6 → cl_H dd b M s H locs → lv_has ls 1 [(0, .ref (b + t0))] → W p l e { frames := 1, cells := 0, slots := 0, locals := 21 } s m args below meth c H locs 0 0 (cl_Zi below args s dd b r M') (F0 m 0 ls []) := by
  have hx := C.1
  have hb := C.2.1
  have hlt := C.2.2.2.2.2.2.2.2.2.2
  have hRr := C.2.2.2.2.2.2.2.2.2.1
  intro M t0 r M' hf H locs ls ht0 hw hl
  unfold f_X6_waterCame at hf
  refine lv_aload_n hx hb dX6_waterCame_0 rfl (lv_at hl 0 rfl) ?_
  refine lv_aload_n hx hb dX6_waterCame_1 rfl (lv_at hl 0 rfl) ?_
  refine fg_X6_17 C hw ht0 dX6_waterCame_2 ?_
  refine lv_bipush (v := 8) hx hb dX6_waterCame_5 (by decide) ?_
  refine cr_iald C hw (sh_6_5 ht0).1 (sh_6_5 ht0).2 (by decide) (k := 8) rfl dX6_waterCame_7 ?_
  obtain ⟨v1, M2, e3, hf⟩ := cl_b2_e hf
  refine cr_Vi C hw (c_X6_plain hlt ht0 e3) cy_X6_plain vy_X6_plain ml_X6_310 (cl_lt ht0 (by decide)) (cl_e6 ht0) rfl rfl (As := [.int (M (t0 + 2) 8)]) rfl hl.1 rfl ⟨⟨Nat.le_of_ble_eq_true rfl, Nat.le_of_ble_eq_true rfl⟩, Nat.le_of_ble_eq_true rfl, Nat.le_of_ble_eq_true rfl, Nat.le_of_ble_eq_true rfl⟩ dX6_waterCame_8 (fun H locs hw => ?_)
  obtain ⟨rfl, rfl⟩ := cl_pair hf
  exact cr_reti C hw dX6_waterCame_11
set_option maxRecDepth 100000 in
theorem c_X6_waterCame {l : Launch} {dd : cl_D} {b : Nat} (hlt : l.stackTraces = false) {M : cl_M} {t0 : Nat}  {r : Int32} {M' : cl_M} (ht0 : cl_sh dd t0 = 6) (h : f_X6_waterCame M t0 = some (r, M')) : cl_Mi l dd b yX6_waterCame cX6_waterCame 1 (some .int) 1 21 [.ref (b + t0)] M r M' :=
  cl_of hlt (by decide) (Nat.le_of_ble_eq_true rfl) (fun p e s m below meth c ls C hw hl => k_X6_waterCame C M t0 r M' h _ _ _ ht0 hw (lv_sub hl [0] rfl))
theorem cy_X6_waterCame : cl_cy yX6_waterCame cX6_waterCame 1 (some .int) 0 := ⟨in_ClothesLineModel, cd_X6_waterCame, by decide +kernel, by decide +kernel, by decide +kernel⟩
theorem vy_X6_waterCame : cl_vy yX6_waterCame := ⟨im_X6_waterCame, se_X6_waterCame⟩
def f_X6_driedBySun (M : cl_M) (t0 : Nat) : Option (Int32 × cl_M) := cl_b2 (f_X6_plain M t0 (M (t0 + 2) 9)) (fun v1 M2 => some (v1, M2))
set_option maxHeartbeats 4000000 in
set_option maxRecDepth 100000 in
theorem k_X6_driedBySun {p : Program} {l : Launch} {e : Env} {s : State} {m : MethodId} {args : Array Value} {below : List Frame} {meth : Method} {c : Code} {dd : cl_D} {b : Nat} (C : cl_C p l s m args meth c cX6_driedBySun RX6 1 (some .int) dd b) : ∀ (M : cl_M) (t0 : Nat) (r : Int32) (M' : cl_M), f_X6_driedBySun M t0 = some (r, M') → ∀ (H : Heap) (locs : List Loc) (ls : Array Slot), cl_sh dd t0 = 6 → cl_H dd b M s H locs → lv_has ls 1 [(0, .ref (b + t0))] → W p l e { frames := 1, cells := 0, slots := 0, locals := 21 } s m args below meth c H locs 0 0 (cl_Zi below args s dd b r M') (F0 m 0 ls []) := by
  have hx := C.1
  have hb := C.2.1
  have hlt := C.2.2.2.2.2.2.2.2.2.2
  have hRr := C.2.2.2.2.2.2.2.2.2.1
  intro M t0 r M' hf H locs ls ht0 hw hl
  unfold f_X6_driedBySun at hf
  refine lv_aload_n hx hb dX6_driedBySun_0 rfl (lv_at hl 0 rfl) ?_
  refine lv_aload_n hx hb dX6_driedBySun_1 rfl (lv_at hl 0 rfl) ?_
  refine fg_X6_17 C hw ht0 dX6_driedBySun_2 ?_
  refine lv_bipush (v := 9) hx hb dX6_driedBySun_5 (by decide) ?_
  refine cr_iald C hw (sh_6_5 ht0).1 (sh_6_5 ht0).2 (by decide) (k := 9) rfl dX6_driedBySun_7 ?_
  obtain ⟨v1, M2, e3, hf⟩ := cl_b2_e hf
  refine cr_Vi C hw (c_X6_plain hlt ht0 e3) cy_X6_plain vy_X6_plain ml_X6_310 (cl_lt ht0 (by decide)) (cl_e6 ht0) rfl rfl (As := [.int (M (t0 + 2) 9)]) rfl hl.1 rfl ⟨⟨Nat.le_of_ble_eq_true rfl, Nat.le_of_ble_eq_true rfl⟩, Nat.le_of_ble_eq_true rfl, Nat.le_of_ble_eq_true rfl, Nat.le_of_ble_eq_true rfl⟩ dX6_driedBySun_8 (fun H locs hw => ?_)
  obtain ⟨rfl, rfl⟩ := cl_pair hf
  exact cr_reti C hw dX6_driedBySun_11
set_option maxRecDepth 100000 in
theorem c_X6_driedBySun {l : Launch} {dd : cl_D} {b : Nat} (hlt : l.stackTraces = false) {M : cl_M} {t0 : Nat}  {r : Int32} {M' : cl_M} (ht0 : cl_sh dd t0 = 6) (h : f_X6_driedBySun M t0 = some (r, M')) : cl_Mi l dd b yX6_driedBySun cX6_driedBySun 1 (some .int) 1 21 [.ref (b + t0)] M r M' :=
  cl_of hlt (by decide) (Nat.le_of_ble_eq_true rfl) (fun p e s m below meth c ls C hw hl => k_X6_driedBySun C M t0 r M' h _ _ _ ht0 hw (lv_sub hl [0] rfl))
theorem cy_X6_driedBySun : cl_cy yX6_driedBySun cX6_driedBySun 1 (some .int) 0 := ⟨in_ClothesLineModel, cd_X6_driedBySun, by decide +kernel, by decide +kernel, by decide +kernel⟩
theorem vy_X6_driedBySun : cl_vy yX6_driedBySun := ⟨im_X6_driedBySun, se_X6_driedBySun⟩
def f_X6_driedByWind (M : cl_M) (t0 : Nat) : Option (Int32 × cl_M) := cl_b2 (f_X6_plain M t0 (M (t0 + 2) 10)) (fun v1 M2 => some (v1, M2))
set_option maxHeartbeats 4000000 in
set_option maxRecDepth 100000 in
theorem k_X6_driedByWind {p : Program} {l : Launch} {e : Env} {s : State} {m : MethodId} {args : Array Value} {below : List Frame} {meth : Method} {c : Code} {dd : cl_D} {b : Nat} (C : cl_C p l s m args meth c cX6_driedByWind RX6 1 (some .int) dd b) : ∀ (M : cl_M) (t0 : Nat) (r : Int32) (M' : cl_M), f_X6_driedByWind M t0 = some (r, M') → ∀ (H : Heap) (locs : List Loc) (ls : Array Slot), cl_sh dd t0 = 6 → cl_H dd b M s H locs → lv_has ls 1 [(0, .ref (b + t0))] → W p l e { frames := 1, cells := 0, slots := 0, locals := 21 } s m args below meth c H locs 0 0 (cl_Zi below args s dd b r M') (F0 m 0 ls []) := by
  have hx := C.1
  have hb := C.2.1
  have hlt := C.2.2.2.2.2.2.2.2.2.2
  have hRr := C.2.2.2.2.2.2.2.2.2.1
  intro M t0 r M' hf H locs ls ht0 hw hl
  unfold f_X6_driedByWind at hf
  refine lv_aload_n hx hb dX6_driedByWind_0 rfl (lv_at hl 0 rfl) ?_
  refine lv_aload_n hx hb dX6_driedByWind_1 rfl (lv_at hl 0 rfl) ?_
  refine fg_X6_17 C hw ht0 dX6_driedByWind_2 ?_
  refine lv_bipush (v := 10) hx hb dX6_driedByWind_5 (by decide) ?_
  refine cr_iald C hw (sh_6_5 ht0).1 (sh_6_5 ht0).2 (by decide) (k := 10) rfl dX6_driedByWind_7 ?_
  obtain ⟨v1, M2, e3, hf⟩ := cl_b2_e hf
  refine cr_Vi C hw (c_X6_plain hlt ht0 e3) cy_X6_plain vy_X6_plain ml_X6_310 (cl_lt ht0 (by decide)) (cl_e6 ht0) rfl rfl (As := [.int (M (t0 + 2) 10)]) rfl hl.1 rfl ⟨⟨Nat.le_of_ble_eq_true rfl, Nat.le_of_ble_eq_true rfl⟩, Nat.le_of_ble_eq_true rfl, Nat.le_of_ble_eq_true rfl, Nat.le_of_ble_eq_true rfl⟩ dX6_driedByWind_8 (fun H locs hw => ?_)
  obtain ⟨rfl, rfl⟩ := cl_pair hf
  exact cr_reti C hw dX6_driedByWind_11
set_option maxRecDepth 100000 in
theorem c_X6_driedByWind {l : Launch} {dd : cl_D} {b : Nat} (hlt : l.stackTraces = false) {M : cl_M} {t0 : Nat}  {r : Int32} {M' : cl_M} (ht0 : cl_sh dd t0 = 6) (h : f_X6_driedByWind M t0 = some (r, M')) : cl_Mi l dd b yX6_driedByWind cX6_driedByWind 1 (some .int) 1 21 [.ref (b + t0)] M r M' :=
  cl_of hlt (by decide) (Nat.le_of_ble_eq_true rfl) (fun p e s m below meth c ls C hw hl => k_X6_driedByWind C M t0 r M' h _ _ _ ht0 hw (lv_sub hl [0] rfl))
theorem cy_X6_driedByWind : cl_cy yX6_driedByWind cX6_driedByWind 1 (some .int) 0 := ⟨in_ClothesLineModel, cd_X6_driedByWind, by decide +kernel, by decide +kernel, by decide +kernel⟩
theorem vy_X6_driedByWind : cl_vy yX6_driedByWind := ⟨im_X6_driedByWind, se_X6_driedByWind⟩
def f_X6_consistencyError_95 (r39 : cl_M → Nat → Int32 → Int32 → Option (Int32 × cl_M)) (M : cl_M) (t0 : Nat) (a2 : Int32) (z0 : Int32) (z1 : Int32) : Option (Int32 × cl_M) := (f_X6_flag M z0).bind (fun v8 => cl_let (z1 + v8) (fun v10 => cl_let (a2 + 1) (fun v11 => r39 M t0 v10 v11)))
set_option maxHeartbeats 4000000 in
set_option maxRecDepth 100000 in
theorem k_X6_consistencyError_95 {p : Program} {l : Launch} {e : Env} {s : State} {m : MethodId} {args : Array Value} {below : List Frame} {meth : Method} {c : Code} {dd : cl_D} {b : Nat} (C : cl_C p l s m args meth c cX6_consistencyError RX6 5 (some .int) dd b) {r39 : cl_M → Nat → Int32 → Int32 → Option (Int32 × cl_M)} (hr39 : ∀ (M : cl_M) (t0 : Nat) (a1 : Int32) (a2 : Int32) (r : Int32) (M' : cl_M), r39 M t0 a1 a2 = some (r, M') → ∀ (H : Heap) (locs : List Loc) (ls : Array Slot), cl_sh dd t0 = 6 → cl_H dd b M s H locs → lv_has ls 5 [(0, .ref (b + t0)), (1, .int a1), (2, .int a2)] → W p l e { frames := 3, cells := 0, slots := 0, locals := 65 } s m args below meth c H locs 0 0 (cl_Zi below args s dd b r M') (F0 m 39 ls [])) : ∀ (M : cl_M) (t0 : Nat) (a2 : Int32) (z0 : Int32) (z1 : Int32) (r : Int32) (M' : cl_M), f_X6_consistencyError_95 r39 M t0 a2 z0 z1 = some (r, M') → ∀ (H : Heap) (locs : List Loc) (ls : Array Slot), cl_sh dd t0 = 6 → cl_H dd b M s H locs → lv_has ls 5 [(0, .ref (b + t0)), (2, .int a2)] → W p l e { frames := 3, cells := 0, slots := 0, locals := 65 } s m args below meth c H locs 0 0 (cl_Zi below args s dd b r M') (F0 m 95 ls [.int z0, .int z1]) := by
  have hx := C.1
  have hb := C.2.1
  have hlt := C.2.2.2.2.2.2.2.2.2.2
  have hRr := C.2.2.2.2.2.2.2.2.2.1
  intro M t0 a2 z0 z1 r M' hf H locs ls ht0 hw hl
  unfold f_X6_consistencyError_95 at hf
  obtain ⟨v8, e9, hf⟩ := cl_bind_e hf
  refine cr_Si C hw (c_X6_flag hlt e9) cy_X6_flag st_X6_flag ml_X6_146 (As := [.int z0]) rfl hl.1 rfl ⟨⟨Nat.le_of_ble_eq_true rfl, Nat.le_of_ble_eq_true rfl⟩, Nat.le_of_ble_eq_true rfl, Nat.le_of_ble_eq_true rfl, Nat.le_of_ble_eq_true rfl⟩ dX6_consistencyError_95 (fun H locs hw => ?_)
  refine lv_iadd hx hb dX6_consistencyError_98 ?_
  obtain ⟨v10, ev10, hf⟩ := cl_let_e hf
  refine cr_top ev10 ?_
  refine lv_istore_n (lv' := [(1, .int v10), (0, .ref (b + t0)), (2, .int a2)]) hx hb dX6_consistencyError_99 rfl hl (by decide) rfl (fun ls hl => ?_)
  obtain ⟨v11, ev11, hf⟩ := cl_let_e hf
  refine lv_iinc (v := v11) (lv' := [(2, .int v11), (1, .int v10), (0, .ref (b + t0))]) hx hb dX6_consistencyError_100 hl (k := 2) rfl (by rw [ev11]; rfl) (by decide) rfl (fun ls hl => ?_)
  refine lv_goto (tgt := 39) hx hb dX6_consistencyError_103 (by decide) ?_
  exact hr39 M t0 v10 v11 _ _ hf _ _ _ ht0 hw (lv_sub hl [2, 1, 0] rfl)
def f_X6_consistencyError_50 (r39 : cl_M → Nat → Int32 → Int32 → Option (Int32 × cl_M)) : Nat → cl_M → Nat → Int32 → Int32 → Int32 → Int32 → Option (Int32 × cl_M)
  | 0, _, _, _, _, _, _ => none
  | k + 1, M, t0, a1, a2, a3, a4 => if (M (t0 + 2) 7) ≤ a4 then if a3 ≤ 1 then f_X6_consistencyError_95 r39 M t0 a2 0 a1 else f_X6_consistencyError_95 r39 M t0 a2 1 a1 else (f_X6_spotsOf M t0 a4).bind (fun v12 => (f_X6_has M v12 a2).bind (fun v14 => (f_X6_flag M v14).bind (fun v16 => cl_let (a3 + v16) (fun v18 => cl_let (a4 + 1) (fun v19 => f_X6_consistencyError_50 r39 k M t0 a1 a2 v18 v19)))))
set_option maxHeartbeats 4000000 in
set_option maxRecDepth 100000 in
theorem k_X6_consistencyError_50 {p : Program} {l : Launch} {e : Env} {s : State} {m : MethodId} {args : Array Value} {below : List Frame} {meth : Method} {c : Code} {dd : cl_D} {b : Nat} (C : cl_C p l s m args meth c cX6_consistencyError RX6 5 (some .int) dd b) {r39 : cl_M → Nat → Int32 → Int32 → Option (Int32 × cl_M)} (hr39 : ∀ (M : cl_M) (t0 : Nat) (a1 : Int32) (a2 : Int32) (r : Int32) (M' : cl_M), r39 M t0 a1 a2 = some (r, M') → ∀ (H : Heap) (locs : List Loc) (ls : Array Slot), cl_sh dd t0 = 6 → cl_H dd b M s H locs → lv_has ls 5 [(0, .ref (b + t0)), (1, .int a1), (2, .int a2)] → W p l e { frames := 3, cells := 0, slots := 0, locals := 65 } s m args below meth c H locs 0 0 (cl_Zi below args s dd b r M') (F0 m 39 ls [])) : ∀ (k : Nat), ∀ (M : cl_M) (t0 : Nat) (a1 : Int32) (a2 : Int32) (a3 : Int32) (a4 : Int32) (r : Int32) (M' : cl_M), f_X6_consistencyError_50 r39 k M t0 a1 a2 a3 a4 = some (r, M') → ∀ (H : Heap) (locs : List Loc) (ls : Array Slot), cl_sh dd t0 = 6 → cl_H dd b M s H locs → lv_has ls 5 [(0, .ref (b + t0)), (1, .int a1), (2, .int a2), (3, .int a3), (4, .int a4)] → W p l e { frames := 3, cells := 0, slots := 0, locals := 65 } s m args below meth c H locs 0 0 (cl_Zi below args s dd b r M') (F0 m 50 ls []) := by
  have hx := C.1
  have hb := C.2.1
  have hlt := C.2.2.2.2.2.2.2.2.2.2
  have hRr := C.2.2.2.2.2.2.2.2.2.1
  intro k
  induction k with
  | zero =>
    intro M t0 a1 a2 a3 a4 r M' hf H locs ls ht0 hw hl
    rw [f_X6_consistencyError_50] at hf
    cases hf
  | succ k ih =>
    intro M t0 a1 a2 a3 a4 r M' hf H locs ls ht0 hw hl
    rw [f_X6_consistencyError_50] at hf
    refine lv_iload hx hb dX6_consistencyError_50 (lv_at hl 4 rfl) ?_
    refine lv_aload_n hx hb dX6_consistencyError_52 rfl (lv_at hl 0 rfl) ?_
    refine fg_X6_17 C hw ht0 dX6_consistencyError_53 ?_
    refine lv_bipush (v := 7) hx hb dX6_consistencyError_56 (by decide) ?_
    refine cr_iald C hw (sh_6_5 ht0).1 (sh_6_5 ht0).2 (by decide) (k := 7) rfl dX6_consistencyError_58 ?_
    refine lv_icmp_ge (tgt := 84) hx hb dX6_consistencyError_59 (by decide) (fun c6 => ?_) (fun c6 => ?_)
    · have hf := cl_yes c6 hf
      refine lv_iload_n hx hb dX6_consistencyError_84 rfl (lv_at hl 1 rfl) ?_
      refine lv_iload_n hx hb dX6_consistencyError_85 rfl (lv_at hl 3 rfl) ?_
      refine lv_iconst (v := 1) hx hb dX6_consistencyError_86 (by decide) ?_
      refine lv_icmp_le (tgt := 94) hx hb dX6_consistencyError_87 (by decide) (fun c7 => ?_) (fun c7 => ?_)
      · have hf := cl_yes c7 hf
        refine lv_iconst (v := 0) hx hb dX6_consistencyError_94 (by decide) ?_
        exact k_X6_consistencyError_95 C hr39 M t0 a2 0 a1 _ _ hf _ _ _ ht0 hw (lv_sub hl [0, 2] rfl)
      · have hf := cl_no c7 hf
        refine lv_iconst (v := 1) hx hb dX6_consistencyError_90 (by decide) ?_
        refine lv_goto (tgt := 95) hx hb dX6_consistencyError_91 (by decide) ?_
        exact k_X6_consistencyError_95 C hr39 M t0 a2 1 a1 _ _ hf _ _ _ ht0 hw (lv_sub hl [0, 2] rfl)
    · have hf := cl_no c6 hf
      refine lv_iload_n hx hb dX6_consistencyError_62 rfl (lv_at hl 3 rfl) ?_
      refine lv_aload_n hx hb dX6_consistencyError_63 rfl (lv_at hl 0 rfl) ?_
      refine lv_iload hx hb dX6_consistencyError_64 (lv_at hl 4 rfl) ?_
      obtain ⟨v12, e13, hf⟩ := cl_bind_e hf
      refine cr_Vi C hw (c_X6_spotsOf hlt ht0 e13) cy_X6_spotsOf vy_X6_spotsOf ml_X6_91 (cl_lt ht0 (by decide)) (cl_e6 ht0) rfl rfl (As := [.int a4]) rfl hl.1 rfl ⟨⟨Nat.le_of_ble_eq_true rfl, Nat.le_of_ble_eq_true rfl⟩, Nat.le_of_ble_eq_true rfl, Nat.le_of_ble_eq_true rfl, Nat.le_of_ble_eq_true rfl⟩ dX6_consistencyError_66 (fun H locs hw => ?_)
      refine lv_iload_n hx hb dX6_consistencyError_69 rfl (lv_at hl 2 rfl) ?_
      obtain ⟨v14, e15, hf⟩ := cl_bind_e hf
      refine cr_Si C hw (c_X6_has hlt e15) cy_X6_has st_X6_has ml_X6_323 (As := [.int v12, .int a2]) rfl hl.1 rfl ⟨⟨Nat.le_of_ble_eq_true rfl, Nat.le_of_ble_eq_true rfl⟩, Nat.le_of_ble_eq_true rfl, Nat.le_of_ble_eq_true rfl, Nat.le_of_ble_eq_true rfl⟩ dX6_consistencyError_70 (fun H locs hw => ?_)
      obtain ⟨v16, e17, hf⟩ := cl_bind_e hf
      refine cr_Si C hw (c_X6_flag hlt e17) cy_X6_flag st_X6_flag ml_X6_146 (As := [.int v14]) rfl hl.1 rfl ⟨⟨Nat.le_of_ble_eq_true rfl, Nat.le_of_ble_eq_true rfl⟩, Nat.le_of_ble_eq_true rfl, Nat.le_of_ble_eq_true rfl, Nat.le_of_ble_eq_true rfl⟩ dX6_consistencyError_73 (fun H locs hw => ?_)
      refine lv_iadd hx hb dX6_consistencyError_76 ?_
      obtain ⟨v18, ev18, hf⟩ := cl_let_e hf
      refine cr_top ev18 ?_
      refine lv_istore_n (lv' := [(3, .int v18), (0, .ref (b + t0)), (1, .int a1), (2, .int a2), (4, .int a4)]) hx hb dX6_consistencyError_77 rfl hl (by decide) rfl (fun ls hl => ?_)
      obtain ⟨v19, ev19, hf⟩ := cl_let_e hf
      refine lv_iinc (v := v19) (lv' := [(4, .int v19), (3, .int v18), (0, .ref (b + t0)), (1, .int a1), (2, .int a2)]) hx hb dX6_consistencyError_78 hl (k := 4) rfl (by rw [ev19]; rfl) (by decide) rfl (fun ls hl => ?_)
      refine lv_goto (tgt := 50) hx hb dX6_consistencyError_81 (by decide) ?_
      exact ih M t0 a1 a2 v18 v19 _ _ hf _ _ _ ht0 hw (lv_sub hl [2, 3, 4, 1, 0] rfl)
def f_X6_consistencyError_39 : Nat → cl_M → Nat → Int32 → Int32 → Option (Int32 × cl_M)
  | 0, _, _, _, _ => none
  | k + 1, M, t0, a1, a2 => if 24 ≤ a2 then some (a1, M) else f_X6_consistencyError_50 (f_X6_consistencyError_39 k) cl_F M t0 a1 a2 0 0
set_option maxHeartbeats 4000000 in
set_option maxRecDepth 100000 in
theorem k_X6_consistencyError_39 {p : Program} {l : Launch} {e : Env} {s : State} {m : MethodId} {args : Array Value} {below : List Frame} {meth : Method} {c : Code} {dd : cl_D} {b : Nat} (C : cl_C p l s m args meth c cX6_consistencyError RX6 5 (some .int) dd b) : ∀ (k : Nat), ∀ (M : cl_M) (t0 : Nat) (a1 : Int32) (a2 : Int32) (r : Int32) (M' : cl_M), f_X6_consistencyError_39 k M t0 a1 a2 = some (r, M') → ∀ (H : Heap) (locs : List Loc) (ls : Array Slot), cl_sh dd t0 = 6 → cl_H dd b M s H locs → lv_has ls 5 [(0, .ref (b + t0)), (1, .int a1), (2, .int a2)] → W p l e { frames := 3, cells := 0, slots := 0, locals := 65 } s m args below meth c H locs 0 0 (cl_Zi below args s dd b r M') (F0 m 39 ls []) := by
  have hx := C.1
  have hb := C.2.1
  have hlt := C.2.2.2.2.2.2.2.2.2.2
  have hRr := C.2.2.2.2.2.2.2.2.2.1
  intro k
  induction k with
  | zero =>
    intro M t0 a1 a2 r M' hf H locs ls ht0 hw hl
    rw [f_X6_consistencyError_39] at hf
    cases hf
  | succ k ih =>
    intro M t0 a1 a2 r M' hf H locs ls ht0 hw hl
    rw [f_X6_consistencyError_39] at hf
    refine lv_iload_n hx hb dX6_consistencyError_39 rfl (lv_at hl 2 rfl) ?_
    refine lv_bipush (v := 24) hx hb dX6_consistencyError_40 (by decide) ?_
    refine lv_icmp_ge (tgt := 106) hx hb dX6_consistencyError_42 (by decide) (fun c5 => ?_) (fun c5 => ?_)
    · have hf := cl_yes c5 hf
      refine lv_iload_n hx hb dX6_consistencyError_106 rfl (lv_at hl 1 rfl) ?_
      obtain ⟨rfl, rfl⟩ := cl_pair hf
      exact cr_reti C hw dX6_consistencyError_107
    · have hf := cl_no c5 hf
      refine lv_iconst (v := 0) hx hb dX6_consistencyError_45 (by decide) ?_
      refine lv_istore_n (lv' := [(3, .int 0), (0, .ref (b + t0)), (1, .int a1), (2, .int a2)]) hx hb dX6_consistencyError_46 rfl hl (by decide) rfl (fun ls hl => ?_)
      refine lv_iconst (v := 0) hx hb dX6_consistencyError_47 (by decide) ?_
      refine lv_istore (lv' := [(4, .int 0), (3, .int 0), (0, .ref (b + t0)), (1, .int a1), (2, .int a2)]) hx hb dX6_consistencyError_48 hl (by decide) rfl (fun ls hl => ?_)
      exact k_X6_consistencyError_50 C ih cl_F M t0 a1 a2 0 0 _ _ hf _ _ _ ht0 hw (lv_sub hl [2, 3, 4, 1, 0] rfl)
def f_X6_consistencyError (M : cl_M) (t0 : Nat) : Option (Int32 × cl_M) := cl_let (cl_ms M t0 4 0) (fun M1 => (f_X6_allWater M1 t0).bind (fun v2 => cl_let (if 0 ≤ ((((M1 (t0 + 2) 8) - (M1 (t0 + 2) 9)) - (M1 (t0 + 2) 10)) - v2) then ((((M1 (t0 + 2) 8) - (M1 (t0 + 2) 9)) - (M1 (t0 + 2) 10)) - v2) else 0 - ((((M1 (t0 + 2) 8) - (M1 (t0 + 2) 9)) - (M1 (t0 + 2) 10)) - v2)) (fun v4 => f_X6_consistencyError_39 cl_F M1 t0 v4 0)))
set_option maxHeartbeats 4000000 in
set_option maxRecDepth 100000 in
theorem k_X6_consistencyError {p : Program} {l : Launch} {e : Env} {s : State} {m : MethodId} {args : Array Value} {below : List Frame} {meth : Method} {c : Code} {dd : cl_D} {b : Nat} (C : cl_C p l s m args meth c cX6_consistencyError RX6 5 (some .int) dd b) : ∀ (M : cl_M) (t0 : Nat) (r : Int32) (M' : cl_M), f_X6_consistencyError M t0 = some (r, M') → ∀ (H : Heap) (locs : List Loc) (ls : Array Slot), cl_sh dd t0 = 6 → cl_H dd b M s H locs → lv_has ls 5 [(0, .ref (b + t0))] → W p l e { frames := 3, cells := 0, slots := 0, locals := 65 } s m args below meth c H locs 0 0 (cl_Zi below args s dd b r M') (F0 m 0 ls []) := by
  have hx := C.1
  have hb := C.2.1
  have hlt := C.2.2.2.2.2.2.2.2.2.2
  have hRr := C.2.2.2.2.2.2.2.2.2.1
  intro M t0 r M' hf H locs ls ht0 hw hl
  unfold f_X6_consistencyError at hf
  refine lv_aload_n hx hb dX6_consistencyError_0 rfl (lv_at hl 0 rfl) ?_
  refine lv_iconst (v := 0) hx hb dX6_consistencyError_1 (by decide) ?_
  obtain ⟨M1, eM1, hf⟩ := cl_let_e hf
  refine fp_X6_60 C hw ht0 eM1 dX6_consistencyError_2 (fun H locs hw => ?_)
  refine lv_aload_n hx hb dX6_consistencyError_5 rfl (lv_at hl 0 rfl) ?_
  refine fg_X6_17 C hw ht0 dX6_consistencyError_6 ?_
  refine lv_bipush (v := 8) hx hb dX6_consistencyError_9 (by decide) ?_
  refine cr_iald C hw (sh_6_5 ht0).1 (sh_6_5 ht0).2 (by decide) (k := 8) rfl dX6_consistencyError_11 ?_
  refine lv_aload_n hx hb dX6_consistencyError_12 rfl (lv_at hl 0 rfl) ?_
  refine fg_X6_17 C hw ht0 dX6_consistencyError_13 ?_
  refine lv_bipush (v := 9) hx hb dX6_consistencyError_16 (by decide) ?_
  refine cr_iald C hw (sh_6_5 ht0).1 (sh_6_5 ht0).2 (by decide) (k := 9) rfl dX6_consistencyError_18 ?_
  refine lv_isub hx hb dX6_consistencyError_19 ?_
  refine lv_aload_n hx hb dX6_consistencyError_20 rfl (lv_at hl 0 rfl) ?_
  refine fg_X6_17 C hw ht0 dX6_consistencyError_21 ?_
  refine lv_bipush (v := 10) hx hb dX6_consistencyError_24 (by decide) ?_
  refine cr_iald C hw (sh_6_5 ht0).1 (sh_6_5 ht0).2 (by decide) (k := 10) rfl dX6_consistencyError_26 ?_
  refine lv_isub hx hb dX6_consistencyError_27 ?_
  refine lv_aload_n hx hb dX6_consistencyError_28 rfl (lv_at hl 0 rfl) ?_
  obtain ⟨v2, e3, hf⟩ := cl_bind_e hf
  refine cr_Vi C hw (c_X6_allWater hlt ht0 e3) cy_X6_allWater vy_X6_allWater ml_X6_345 (cl_lt ht0 (by decide)) (cl_e6 ht0) rfl rfl (As := []) rfl hl.1 rfl ⟨⟨Nat.le_of_ble_eq_true rfl, Nat.le_of_ble_eq_true rfl⟩, Nat.le_of_ble_eq_true rfl, Nat.le_of_ble_eq_true rfl, Nat.le_of_ble_eq_true rfl⟩ dX6_consistencyError_29 (fun H locs hw => ?_)
  refine lv_isub hx hb dX6_consistencyError_32 ?_
  refine cr_abs C ml_X6_348 st_math_abs in_math cd_math_abs hl.1 ⟨Nat.le_of_ble_eq_true rfl, Nat.le_of_ble_eq_true rfl, Nat.le_of_ble_eq_true rfl, Nat.le_of_ble_eq_true rfl⟩ dX6_consistencyError_33 ?_
  obtain ⟨v4, ev4, hf⟩ := cl_let_e hf
  refine cr_top ev4 ?_
  refine lv_istore_n (lv' := [(1, .int v4), (0, .ref (b + t0))]) hx hb dX6_consistencyError_36 rfl hl (by decide) rfl (fun ls hl => ?_)
  refine lv_iconst (v := 0) hx hb dX6_consistencyError_37 (by decide) ?_
  refine lv_istore_n (lv' := [(2, .int 0), (1, .int v4), (0, .ref (b + t0))]) hx hb dX6_consistencyError_38 rfl hl (by decide) rfl (fun ls hl => ?_)
  exact k_X6_consistencyError_39 C cl_F M1 t0 v4 0 _ _ hf _ _ _ ht0 hw (lv_sub hl [2, 1, 0] rfl)
set_option maxRecDepth 100000 in
theorem c_X6_consistencyError {l : Launch} {dd : cl_D} {b : Nat} (hlt : l.stackTraces = false) {M : cl_M} {t0 : Nat}  {r : Int32} {M' : cl_M} (ht0 : cl_sh dd t0 = 6) (h : f_X6_consistencyError M t0 = some (r, M')) : cl_Mi l dd b yX6_consistencyError cX6_consistencyError 5 (some .int) 3 65 [.ref (b + t0)] M r M' :=
  cl_of hlt (by decide) (Nat.le_of_ble_eq_true rfl) (fun p e s m below meth c ls C hw hl => k_X6_consistencyError C M t0 r M' h _ _ _ ht0 hw (lv_sub hl [0] rfl))
theorem cy_X6_consistencyError : cl_cy yX6_consistencyError cX6_consistencyError 5 (some .int) 0 := ⟨in_ClothesLineModel, cd_X6_consistencyError, by decide +kernel, by decide +kernel, by decide +kernel⟩
theorem vy_X6_consistencyError : cl_vy yX6_consistencyError := ⟨im_X6_consistencyError, se_X6_consistencyError⟩
def f_X6_waterAfter (M : cl_M) (t0 : Nat) (a1 : Int32) (a2 : Int32) : Option (Int32 × cl_M) := cl_b2 (f_X6_isGarment M t0 a1) (fun v1 M2 => if v1 = 0 then some (0, M2) else (f_X6_inRange M2 a2 0 500).bind (fun v5 => cl_b2 (f_X6_fails M2 t0 v5 2) (fun v7 M8 => if v7 = 0 then (f_X6_startTrial M8 t0).bind (fun M11 => cl_b2 (f_X6_passAll M11 t0 a2) (fun v13 M14 => (f_X6_of M14 t0 a1 3).bind (fun v16 => cl_b2 (f_X6_putBack M14 t0 v16) (fun v18 M19 => some (v18, M19))))) else some (0, M8))))
set_option maxHeartbeats 4000000 in
set_option maxRecDepth 100000 in
theorem k_X6_waterAfter {p : Program} {l : Launch} {e : Env} {s : State} {m : MethodId} {args : Array Value} {below : List Frame} {meth : Method} {c : Code} {dd : cl_D} {b : Nat} (C : cl_C p l s m args meth c cX6_waterAfter RX6 4 (some .int) dd b) : ∀ (M : cl_M) (t0 : Nat) (a1 : Int32) (a2 : Int32) (r : Int32) (M' : cl_M), f_X6_waterAfter M t0 a1 a2 = some (r, M') → ∀ (H : Heap) (locs : List Loc) (ls : Array Slot), cl_sh dd t0 = 6 → cl_H dd b M s H locs → lv_has ls 4 [(0, .ref (b + t0)), (1, .int a1), (2, .int a2)] → W p l e { frames := 6, cells := 0, slots := 0, locals := 138 } s m args below meth c H locs 0 0 (cl_Zi below args s dd b r M') (F0 m 0 ls []) := by
  have hx := C.1
  have hb := C.2.1
  have hlt := C.2.2.2.2.2.2.2.2.2.2
  have hRr := C.2.2.2.2.2.2.2.2.2.1
  intro M t0 a1 a2 r M' hf H locs ls ht0 hw hl
  unfold f_X6_waterAfter at hf
  refine lv_aload_n hx hb dX6_waterAfter_0 rfl (lv_at hl 0 rfl) ?_
  refine lv_iload_n hx hb dX6_waterAfter_1 rfl (lv_at hl 1 rfl) ?_
  obtain ⟨v1, M2, e3, hf⟩ := cl_b2_e hf
  refine cr_Vi C hw (c_X6_isGarment hlt ht0 e3) cy_X6_isGarment vy_X6_isGarment ml_X6_332 (cl_lt ht0 (by decide)) (cl_e6 ht0) rfl rfl (As := [.int a1]) rfl hl.1 rfl ⟨⟨Nat.le_of_ble_eq_true rfl, Nat.le_of_ble_eq_true rfl⟩, Nat.le_of_ble_eq_true rfl, Nat.le_of_ble_eq_true rfl, Nat.le_of_ble_eq_true rfl⟩ dX6_waterAfter_2 (fun H locs hw => ?_)
  refine lv_if_eq (tgt := 24) hx hb dX6_waterAfter_5 (by decide) (fun c4 => ?_) (fun c4 => ?_)
  · have hf := cl_yes c4 hf
    refine lv_iconst (v := 0) hx hb dX6_waterAfter_24 (by decide) ?_
    obtain ⟨rfl, rfl⟩ := cl_pair hf
    exact cr_reti C hw dX6_waterAfter_25
  · have hf := cl_no c4 hf
    refine lv_aload_n hx hb dX6_waterAfter_8 rfl (lv_at hl 0 rfl) ?_
    refine lv_iload_n hx hb dX6_waterAfter_9 rfl (lv_at hl 2 rfl) ?_
    refine lv_iconst (v := 0) hx hb dX6_waterAfter_10 (by decide) ?_
    refine lv_sipush (v := 500) hx hb dX6_waterAfter_11 (by decide) ?_
    obtain ⟨v5, e6, hf⟩ := cl_bind_e hf
    refine cr_Si C hw (c_X6_inRange hlt e6) cy_X6_inRange st_X6_inRange ml_X6_63 (As := [.int a2, .int 0, .int 500]) rfl hl.1 rfl ⟨⟨Nat.le_of_ble_eq_true rfl, Nat.le_of_ble_eq_true rfl⟩, Nat.le_of_ble_eq_true rfl, Nat.le_of_ble_eq_true rfl, Nat.le_of_ble_eq_true rfl⟩ dX6_waterAfter_14 (fun H locs hw => ?_)
    refine lv_iconst (v := 2) hx hb dX6_waterAfter_17 (by decide) ?_
    obtain ⟨v7, M8, e9, hf⟩ := cl_b2_e hf
    refine cr_Vi C hw (c_X6_fails hlt ht0 e9) cy_X6_fails vy_X6_fails ml_X6_313 (cl_lt ht0 (by decide)) (cl_e6 ht0) rfl rfl (As := [.int v5, .int 2]) rfl hl.1 rfl ⟨⟨Nat.le_of_ble_eq_true rfl, Nat.le_of_ble_eq_true rfl⟩, Nat.le_of_ble_eq_true rfl, Nat.le_of_ble_eq_true rfl, Nat.le_of_ble_eq_true rfl⟩ dX6_waterAfter_18 (fun H locs hw => ?_)
    refine lv_if_eq (tgt := 26) hx hb dX6_waterAfter_21 (by decide) (fun c10 => ?_) (fun c10 => ?_)
    · have hf := cl_yes c10 hf
      refine lv_aload_n hx hb dX6_waterAfter_26 rfl (lv_at hl 0 rfl) ?_
      obtain ⟨M11, e12, hf⟩ := cl_bind_e hf
      refine cr_Vv C hw (c_X6_startTrial hlt ht0 e12) cy_X6_startTrial vy_X6_startTrial ml_X6_292 (cl_lt ht0 (by decide)) (cl_e6 ht0) rfl rfl (As := []) rfl hl.1 rfl ⟨⟨Nat.le_of_ble_eq_true rfl, Nat.le_of_ble_eq_true rfl⟩, Nat.le_of_ble_eq_true rfl, Nat.le_of_ble_eq_true rfl, Nat.le_of_ble_eq_true rfl⟩ dX6_waterAfter_27 (fun H locs hw => ?_)
      refine lv_aload_n hx hb dX6_waterAfter_30 rfl (lv_at hl 0 rfl) ?_
      refine lv_iload_n hx hb dX6_waterAfter_31 rfl (lv_at hl 2 rfl) ?_
      obtain ⟨v13, M14, e15, hf⟩ := cl_b2_e hf
      refine cr_Vi C hw (c_X6_passAll hlt ht0 e15) cy_X6_passAll vy_X6_passAll ml_X6_280 (cl_lt ht0 (by decide)) (cl_e6 ht0) rfl rfl (As := [.int a2]) rfl hl.1 rfl ⟨⟨Nat.le_of_ble_eq_true rfl, Nat.le_of_ble_eq_true rfl⟩, Nat.le_of_ble_eq_true rfl, Nat.le_of_ble_eq_true rfl, Nat.le_of_ble_eq_true rfl⟩ dX6_waterAfter_32 (fun H locs hw => ?_)
      refine lv_istore_n (lv' := [(3, .int v13), (0, .ref (b + t0)), (1, .int a1), (2, .int a2)]) hx hb dX6_waterAfter_35 rfl hl (by decide) rfl (fun ls hl => ?_)
      refine lv_aload_n hx hb dX6_waterAfter_36 rfl (lv_at hl 1 rfl) ?_
      refine lv_aload_n hx hb dX6_waterAfter_37 rfl (lv_at hl 1 rfl) ?_
      refine lv_iload_n hx hb dX6_waterAfter_38 rfl (lv_at hl 2 rfl) ?_
      refine lv_iconst (v := 3) hx hb dX6_waterAfter_39 (by decide) ?_
      obtain ⟨v16, e17, hf⟩ := cl_bind_e hf
      refine cr_Vi C hw (c_X6_of hlt ht0 e17) cy_X6_of vy_X6_of ml_X6_81 (cl_lt ht0 (by decide)) (cl_e6 ht0) rfl rfl (As := [.int a1, .int 3]) rfl hl.1 rfl ⟨⟨Nat.le_of_ble_eq_true rfl, Nat.le_of_ble_eq_true rfl⟩, Nat.le_of_ble_eq_true rfl, Nat.le_of_ble_eq_true rfl, Nat.le_of_ble_eq_true rfl⟩ dX6_waterAfter_40 (fun H locs hw => ?_)
      obtain ⟨v18, M19, e20, hf⟩ := cl_b2_e hf
      refine cr_Vi C hw (c_X6_putBack hlt ht0 e20) cy_X6_putBack vy_X6_putBack ml_X6_301 (cl_lt ht0 (by decide)) (cl_e6 ht0) rfl rfl (As := [.int v16]) rfl hl.1 rfl ⟨⟨Nat.le_of_ble_eq_true rfl, Nat.le_of_ble_eq_true rfl⟩, Nat.le_of_ble_eq_true rfl, Nat.le_of_ble_eq_true rfl, Nat.le_of_ble_eq_true rfl⟩ dX6_waterAfter_43 (fun H locs hw => ?_)
      obtain ⟨rfl, rfl⟩ := cl_pair hf
      exact cr_reti C hw dX6_waterAfter_46
    · have hf := cl_no c10 hf
      refine lv_iconst (v := 0) hx hb dX6_waterAfter_24 (by decide) ?_
      obtain ⟨rfl, rfl⟩ := cl_pair hf
      exact cr_reti C hw dX6_waterAfter_25
set_option maxRecDepth 100000 in
theorem c_X6_waterAfter {l : Launch} {dd : cl_D} {b : Nat} (hlt : l.stackTraces = false) {M : cl_M} {t0 : Nat} {a1 : Int32} {a2 : Int32}  {r : Int32} {M' : cl_M} (ht0 : cl_sh dd t0 = 6) (h : f_X6_waterAfter M t0 a1 a2 = some (r, M')) : cl_Mi l dd b yX6_waterAfter cX6_waterAfter 4 (some .int) 6 138 [.ref (b + t0), .int a1, .int a2] M r M' :=
  cl_of hlt (by decide) (Nat.le_of_ble_eq_true rfl) (fun p e s m below meth c ls C hw hl => k_X6_waterAfter C M t0 a1 a2 r M' h _ _ _ ht0 hw (lv_sub hl [0, 1, 2] rfl))
theorem cy_X6_waterAfter : cl_cy yX6_waterAfter cX6_waterAfter 4 (some .int) 2 := ⟨in_ClothesLineModel, cd_X6_waterAfter, by decide +kernel, by decide +kernel, by decide +kernel⟩
theorem vy_X6_waterAfter : cl_vy yX6_waterAfter := ⟨im_X6_waterAfter, se_X6_waterAfter⟩
def f_X6_minutesToDry_58 (M : cl_M) (z0 : Int32) (w1 : Nat) : Option (Int32 × cl_M) := cl_b2 (f_X6_putBack M w1 z0) (fun v11 M12 => some (v11, M12))
set_option maxHeartbeats 4000000 in
set_option maxRecDepth 100000 in
theorem k_X6_minutesToDry_58 {p : Program} {l : Launch} {e : Env} {s : State} {m : MethodId} {args : Array Value} {below : List Frame} {meth : Method} {c : Code} {dd : cl_D} {b : Nat} (C : cl_C p l s m args meth c cX6_minutesToDry RX6 4 (some .int) dd b) : ∀ (M : cl_M) (z0 : Int32) (w1 : Nat) (r : Int32) (M' : cl_M), f_X6_minutesToDry_58 M z0 w1 = some (r, M') → ∀ (H : Heap) (locs : List Loc) (ls : Array Slot), cl_sh dd w1 = 6 → cl_H dd b M s H locs → lv_has ls 4 [] → W p l e { frames := 5, cells := 0, slots := 0, locals := 115 } s m args below meth c H locs 0 0 (cl_Zi below args s dd b r M') (F0 m 58 ls [.int z0, .ref (b + w1)]) := by
  have hx := C.1
  have hb := C.2.1
  have hlt := C.2.2.2.2.2.2.2.2.2.2
  have hRr := C.2.2.2.2.2.2.2.2.2.1
  intro M z0 w1 r M' hf H locs ls hw1 hw hl
  unfold f_X6_minutesToDry_58 at hf
  obtain ⟨v11, M12, e13, hf⟩ := cl_b2_e hf
  refine cr_Vi C hw (c_X6_putBack hlt hw1 e13) cy_X6_putBack vy_X6_putBack ml_X6_301 (cl_lt hw1 (by decide)) (cl_e6 hw1) rfl rfl (As := [.int z0]) rfl hl.1 rfl ⟨⟨Nat.le_of_ble_eq_true rfl, Nat.le_of_ble_eq_true rfl⟩, Nat.le_of_ble_eq_true rfl, Nat.le_of_ble_eq_true rfl, Nat.le_of_ble_eq_true rfl⟩ dX6_minutesToDry_58 (fun H locs hw => ?_)
  obtain ⟨rfl, rfl⟩ := cl_pair hf
  exact cr_reti C hw dX6_minutesToDry_61
def f_X6_minutesToDry_43 (M : cl_M) (t0 : Nat) (a1 : Int32) (a2 : Int32) : Option (Int32 × cl_M) := (f_X6_of M t0 a1 3).bind (fun v8 => if v8 = 0 then f_X6_minutesToDry_58 M a2 t0 else f_X6_minutesToDry_58 M (-1) t0)
set_option maxHeartbeats 4000000 in
set_option maxRecDepth 100000 in
theorem k_X6_minutesToDry_43 {p : Program} {l : Launch} {e : Env} {s : State} {m : MethodId} {args : Array Value} {below : List Frame} {meth : Method} {c : Code} {dd : cl_D} {b : Nat} (C : cl_C p l s m args meth c cX6_minutesToDry RX6 4 (some .int) dd b) : ∀ (M : cl_M) (t0 : Nat) (a1 : Int32) (a2 : Int32) (r : Int32) (M' : cl_M), f_X6_minutesToDry_43 M t0 a1 a2 = some (r, M') → ∀ (H : Heap) (locs : List Loc) (ls : Array Slot), cl_sh dd t0 = 6 → cl_H dd b M s H locs → lv_has ls 4 [(0, .ref (b + t0)), (1, .int a1), (2, .int a2)] → W p l e { frames := 5, cells := 0, slots := 0, locals := 115 } s m args below meth c H locs 0 0 (cl_Zi below args s dd b r M') (F0 m 43 ls []) := by
  have hx := C.1
  have hb := C.2.1
  have hlt := C.2.2.2.2.2.2.2.2.2.2
  have hRr := C.2.2.2.2.2.2.2.2.2.1
  intro M t0 a1 a2 r M' hf H locs ls ht0 hw hl
  unfold f_X6_minutesToDry_43 at hf
  refine lv_aload_n hx hb dX6_minutesToDry_43 rfl (lv_at hl 0 rfl) ?_
  refine lv_aload_n hx hb dX6_minutesToDry_44 rfl (lv_at hl 0 rfl) ?_
  refine lv_iload_n hx hb dX6_minutesToDry_45 rfl (lv_at hl 1 rfl) ?_
  refine lv_iconst (v := 3) hx hb dX6_minutesToDry_46 (by decide) ?_
  obtain ⟨v8, e9, hf⟩ := cl_bind_e hf
  refine cr_Vi C hw (c_X6_of hlt ht0 e9) cy_X6_of vy_X6_of ml_X6_81 (cl_lt ht0 (by decide)) (cl_e6 ht0) rfl rfl (As := [.int a1, .int 3]) rfl hl.1 rfl ⟨⟨Nat.le_of_ble_eq_true rfl, Nat.le_of_ble_eq_true rfl⟩, Nat.le_of_ble_eq_true rfl, Nat.le_of_ble_eq_true rfl, Nat.le_of_ble_eq_true rfl⟩ dX6_minutesToDry_47 (fun H locs hw => ?_)
  refine lv_if_ne (tgt := 57) hx hb dX6_minutesToDry_50 (by decide) (fun c10 => ?_) (fun c10 => ?_)
  · have hf := cl_no c10 hf
    refine lv_iconst (v := (-1)) hx hb dX6_minutesToDry_57 (by decide) ?_
    exact k_X6_minutesToDry_58 C M (-1) t0 _ _ hf _ _ _ ht0 hw (lv_sub hl [] rfl)
  · have hf := cl_yes c10 hf
    refine lv_iload_n hx hb dX6_minutesToDry_53 rfl (lv_at hl 2 rfl) ?_
    refine lv_goto (tgt := 58) hx hb dX6_minutesToDry_54 (by decide) ?_
    exact k_X6_minutesToDry_58 C M a2 t0 _ _ hf _ _ _ ht0 hw (lv_sub hl [] rfl)
def f_X6_minutesToDry_16 : Nat → cl_M → Nat → Int32 → Int32 → Option (Int32 × cl_M)
  | 0, _, _, _, _ => none
  | k + 1, M, t0, a1, a2 => if 500 ≤ a2 then f_X6_minutesToDry_43 M t0 a1 a2 else (f_X6_of M t0 a1 3).bind (fun v14 => if v14 ≤ 0 then f_X6_minutesToDry_43 M t0 a1 a2 else cl_b2 (f_X6_passMinute M t0) (fun v17 M18 => cl_let (a2 + 1) (fun v20 => f_X6_minutesToDry_16 k M18 t0 a1 v20)))
set_option maxHeartbeats 4000000 in
set_option maxRecDepth 100000 in
theorem k_X6_minutesToDry_16 {p : Program} {l : Launch} {e : Env} {s : State} {m : MethodId} {args : Array Value} {below : List Frame} {meth : Method} {c : Code} {dd : cl_D} {b : Nat} (C : cl_C p l s m args meth c cX6_minutesToDry RX6 4 (some .int) dd b) : ∀ (k : Nat), ∀ (M : cl_M) (t0 : Nat) (a1 : Int32) (a2 : Int32) (r : Int32) (M' : cl_M), f_X6_minutesToDry_16 k M t0 a1 a2 = some (r, M') → ∀ (H : Heap) (locs : List Loc) (ls : Array Slot), cl_sh dd t0 = 6 → cl_H dd b M s H locs → lv_has ls 4 [(0, .ref (b + t0)), (1, .int a1), (2, .int a2)] → W p l e { frames := 5, cells := 0, slots := 0, locals := 115 } s m args below meth c H locs 0 0 (cl_Zi below args s dd b r M') (F0 m 16 ls []) := by
  have hx := C.1
  have hb := C.2.1
  have hlt := C.2.2.2.2.2.2.2.2.2.2
  have hRr := C.2.2.2.2.2.2.2.2.2.1
  intro k
  induction k with
  | zero =>
    intro M t0 a1 a2 r M' hf H locs ls ht0 hw hl
    rw [f_X6_minutesToDry_16] at hf
    cases hf
  | succ k ih =>
    intro M t0 a1 a2 r M' hf H locs ls ht0 hw hl
    rw [f_X6_minutesToDry_16] at hf
    refine lv_iload_n hx hb dX6_minutesToDry_16 rfl (lv_at hl 2 rfl) ?_
    refine lv_sipush (v := 500) hx hb dX6_minutesToDry_17 (by decide) ?_
    refine lv_icmp_ge (tgt := 43) hx hb dX6_minutesToDry_20 (by decide) (fun c7 => ?_) (fun c7 => ?_)
    · have hf := cl_yes c7 hf
      exact k_X6_minutesToDry_43 C M t0 a1 a2 _ _ hf _ _ _ ht0 hw (lv_sub hl [0, 1, 2] rfl)
    · have hf := cl_no c7 hf
      refine lv_aload_n hx hb dX6_minutesToDry_23 rfl (lv_at hl 0 rfl) ?_
      refine lv_iload_n hx hb dX6_minutesToDry_24 rfl (lv_at hl 1 rfl) ?_
      refine lv_iconst (v := 3) hx hb dX6_minutesToDry_25 (by decide) ?_
      obtain ⟨v14, e15, hf⟩ := cl_bind_e hf
      refine cr_Vi C hw (c_X6_of hlt ht0 e15) cy_X6_of vy_X6_of ml_X6_81 (cl_lt ht0 (by decide)) (cl_e6 ht0) rfl rfl (As := [.int a1, .int 3]) rfl hl.1 rfl ⟨⟨Nat.le_of_ble_eq_true rfl, Nat.le_of_ble_eq_true rfl⟩, Nat.le_of_ble_eq_true rfl, Nat.le_of_ble_eq_true rfl, Nat.le_of_ble_eq_true rfl⟩ dX6_minutesToDry_26 (fun H locs hw => ?_)
      refine lv_if_le (tgt := 43) hx hb dX6_minutesToDry_29 (by decide) (fun c16 => ?_) (fun c16 => ?_)
      · have hf := cl_yes c16 hf
        exact k_X6_minutesToDry_43 C M t0 a1 a2 _ _ hf _ _ _ ht0 hw (lv_sub hl [0, 1, 2] rfl)
      · have hf := cl_no c16 hf
        refine lv_aload_n hx hb dX6_minutesToDry_32 rfl (lv_at hl 0 rfl) ?_
        obtain ⟨v17, M18, e19, hf⟩ := cl_b2_e hf
        refine cr_Vi C hw (c_X6_passMinute hlt ht0 e19) cy_X6_passMinute vy_X6_passMinute ml_X6_150 (cl_lt ht0 (by decide)) (cl_e6 ht0) rfl rfl (As := []) rfl hl.1 rfl ⟨⟨Nat.le_of_ble_eq_true rfl, Nat.le_of_ble_eq_true rfl⟩, Nat.le_of_ble_eq_true rfl, Nat.le_of_ble_eq_true rfl, Nat.le_of_ble_eq_true rfl⟩ dX6_minutesToDry_33 (fun H locs hw => ?_)
        refine lv_istore_n (lv' := [(3, .int v17), (0, .ref (b + t0)), (1, .int a1), (2, .int a2)]) hx hb dX6_minutesToDry_36 rfl hl (by decide) rfl (fun ls hl => ?_)
        obtain ⟨v20, ev20, hf⟩ := cl_let_e hf
        refine lv_iinc (v := v20) (lv' := [(2, .int v20), (3, .int v17), (0, .ref (b + t0)), (1, .int a1)]) hx hb dX6_minutesToDry_37 hl (k := 3) rfl (by rw [ev20]; rfl) (by decide) rfl (fun ls hl => ?_)
        refine lv_goto (tgt := 16) hx hb dX6_minutesToDry_40 (by decide) ?_
        exact ih M18 t0 a1 v20 _ _ hf _ _ _ ht0 hw (lv_sub hl [2, 3, 0] rfl)
def f_X6_minutesToDry (M : cl_M) (t0 : Nat) (a1 : Int32) : Option (Int32 × cl_M) := cl_b2 (f_X6_isGarment M t0 a1) (fun v1 M2 => if v1 = 0 then some (0, M2) else (f_X6_startTrial M2 t0).bind (fun M5 => f_X6_minutesToDry_16 cl_F M5 t0 a1 0))
set_option maxHeartbeats 4000000 in
set_option maxRecDepth 100000 in
theorem k_X6_minutesToDry {p : Program} {l : Launch} {e : Env} {s : State} {m : MethodId} {args : Array Value} {below : List Frame} {meth : Method} {c : Code} {dd : cl_D} {b : Nat} (C : cl_C p l s m args meth c cX6_minutesToDry RX6 4 (some .int) dd b) : ∀ (M : cl_M) (t0 : Nat) (a1 : Int32) (r : Int32) (M' : cl_M), f_X6_minutesToDry M t0 a1 = some (r, M') → ∀ (H : Heap) (locs : List Loc) (ls : Array Slot), cl_sh dd t0 = 6 → cl_H dd b M s H locs → lv_has ls 4 [(0, .ref (b + t0)), (1, .int a1)] → W p l e { frames := 5, cells := 0, slots := 0, locals := 115 } s m args below meth c H locs 0 0 (cl_Zi below args s dd b r M') (F0 m 0 ls []) := by
  have hx := C.1
  have hb := C.2.1
  have hlt := C.2.2.2.2.2.2.2.2.2.2
  have hRr := C.2.2.2.2.2.2.2.2.2.1
  intro M t0 a1 r M' hf H locs ls ht0 hw hl
  unfold f_X6_minutesToDry at hf
  refine lv_aload_n hx hb dX6_minutesToDry_0 rfl (lv_at hl 0 rfl) ?_
  refine lv_iload_n hx hb dX6_minutesToDry_1 rfl (lv_at hl 1 rfl) ?_
  obtain ⟨v1, M2, e3, hf⟩ := cl_b2_e hf
  refine cr_Vi C hw (c_X6_isGarment hlt ht0 e3) cy_X6_isGarment vy_X6_isGarment ml_X6_332 (cl_lt ht0 (by decide)) (cl_e6 ht0) rfl rfl (As := [.int a1]) rfl hl.1 rfl ⟨⟨Nat.le_of_ble_eq_true rfl, Nat.le_of_ble_eq_true rfl⟩, Nat.le_of_ble_eq_true rfl, Nat.le_of_ble_eq_true rfl, Nat.le_of_ble_eq_true rfl⟩ dX6_minutesToDry_2 (fun H locs hw => ?_)
  refine lv_if_ne (tgt := 10) hx hb dX6_minutesToDry_5 (by decide) (fun c4 => ?_) (fun c4 => ?_)
  · have hf := cl_no c4 hf
    refine lv_aload_n hx hb dX6_minutesToDry_10 rfl (lv_at hl 0 rfl) ?_
    obtain ⟨M5, e6, hf⟩ := cl_bind_e hf
    refine cr_Vv C hw (c_X6_startTrial hlt ht0 e6) cy_X6_startTrial vy_X6_startTrial ml_X6_292 (cl_lt ht0 (by decide)) (cl_e6 ht0) rfl rfl (As := []) rfl hl.1 rfl ⟨⟨Nat.le_of_ble_eq_true rfl, Nat.le_of_ble_eq_true rfl⟩, Nat.le_of_ble_eq_true rfl, Nat.le_of_ble_eq_true rfl, Nat.le_of_ble_eq_true rfl⟩ dX6_minutesToDry_11 (fun H locs hw => ?_)
    refine lv_iconst (v := 0) hx hb dX6_minutesToDry_14 (by decide) ?_
    refine lv_istore_n (lv' := [(2, .int 0), (0, .ref (b + t0)), (1, .int a1)]) hx hb dX6_minutesToDry_15 rfl hl (by decide) rfl (fun ls hl => ?_)
    exact k_X6_minutesToDry_16 C cl_F M5 t0 a1 0 _ _ hf _ _ _ ht0 hw (lv_sub hl [1, 2, 0] rfl)
  · have hf := cl_yes c4 hf
    refine lv_iconst (v := 0) hx hb dX6_minutesToDry_8 (by decide) ?_
    obtain ⟨rfl, rfl⟩ := cl_pair hf
    exact cr_reti C hw dX6_minutesToDry_9
set_option maxRecDepth 100000 in
theorem c_X6_minutesToDry {l : Launch} {dd : cl_D} {b : Nat} (hlt : l.stackTraces = false) {M : cl_M} {t0 : Nat} {a1 : Int32}  {r : Int32} {M' : cl_M} (ht0 : cl_sh dd t0 = 6) (h : f_X6_minutesToDry M t0 a1 = some (r, M')) : cl_Mi l dd b yX6_minutesToDry cX6_minutesToDry 4 (some .int) 5 115 [.ref (b + t0), .int a1] M r M' :=
  cl_of hlt (by decide) (Nat.le_of_ble_eq_true rfl) (fun p e s m below meth c ls C hw hl => k_X6_minutesToDry C M t0 a1 r M' h _ _ _ ht0 hw (lv_sub hl [0, 1] rfl))
theorem cy_X6_minutesToDry : cl_cy yX6_minutesToDry cX6_minutesToDry 4 (some .int) 1 := ⟨in_ClothesLineModel, cd_X6_minutesToDry, by decide +kernel, by decide +kernel, by decide +kernel⟩
theorem vy_X6_minutesToDry : cl_vy yX6_minutesToDry := ⟨im_X6_minutesToDry, se_X6_minutesToDry⟩
def f_X6_minutesToFall_72 (M : cl_M) (z0 : Int32) (w1 : Nat) : Option (Int32 × cl_M) := cl_b2 (f_X6_putBack M w1 z0) (fun v10 M11 => some (v10, M11))
set_option maxHeartbeats 4000000 in
set_option maxRecDepth 100000 in
theorem k_X6_minutesToFall_72 {p : Program} {l : Launch} {e : Env} {s : State} {m : MethodId} {args : Array Value} {below : List Frame} {meth : Method} {c : Code} {dd : cl_D} {b : Nat} (C : cl_C p l s m args meth c cX6_minutesToFall RX6 4 (some .int) dd b) : ∀ (M : cl_M) (z0 : Int32) (w1 : Nat) (r : Int32) (M' : cl_M), f_X6_minutesToFall_72 M z0 w1 = some (r, M') → ∀ (H : Heap) (locs : List Loc) (ls : Array Slot), cl_sh dd w1 = 6 → cl_H dd b M s H locs → lv_has ls 4 [] → W p l e { frames := 5, cells := 0, slots := 0, locals := 115 } s m args below meth c H locs 0 0 (cl_Zi below args s dd b r M') (F0 m 72 ls [.int z0, .ref (b + w1)]) := by
  have hx := C.1
  have hb := C.2.1
  have hlt := C.2.2.2.2.2.2.2.2.2.2
  have hRr := C.2.2.2.2.2.2.2.2.2.1
  intro M z0 w1 r M' hf H locs ls hw1 hw hl
  unfold f_X6_minutesToFall_72 at hf
  obtain ⟨v10, M11, e12, hf⟩ := cl_b2_e hf
  refine cr_Vi C hw (c_X6_putBack hlt hw1 e12) cy_X6_putBack vy_X6_putBack ml_X6_301 (cl_lt hw1 (by decide)) (cl_e6 hw1) rfl rfl (As := [.int z0]) rfl hl.1 rfl ⟨⟨Nat.le_of_ble_eq_true rfl, Nat.le_of_ble_eq_true rfl⟩, Nat.le_of_ble_eq_true rfl, Nat.le_of_ble_eq_true rfl, Nat.le_of_ble_eq_true rfl⟩ dX6_minutesToFall_72 (fun H locs hw => ?_)
  obtain ⟨rfl, rfl⟩ := cl_pair hf
  exact cr_reti C hw dX6_minutesToFall_75
def f_X6_minutesToFall_61 (M : cl_M) (t0 : Nat) (a2 : Int32) (z0 : Int32) : Option (Int32 × cl_M) := if z0 = 0 then f_X6_minutesToFall_72 M (-1) t0 else f_X6_minutesToFall_72 M a2 t0
set_option maxHeartbeats 4000000 in
set_option maxRecDepth 100000 in
theorem k_X6_minutesToFall_61 {p : Program} {l : Launch} {e : Env} {s : State} {m : MethodId} {args : Array Value} {below : List Frame} {meth : Method} {c : Code} {dd : cl_D} {b : Nat} (C : cl_C p l s m args meth c cX6_minutesToFall RX6 4 (some .int) dd b) : ∀ (M : cl_M) (t0 : Nat) (a2 : Int32) (z0 : Int32) (r : Int32) (M' : cl_M), f_X6_minutesToFall_61 M t0 a2 z0 = some (r, M') → ∀ (H : Heap) (locs : List Loc) (ls : Array Slot), cl_sh dd t0 = 6 → cl_H dd b M s H locs → lv_has ls 4 [(0, .ref (b + t0)), (2, .int a2)] → W p l e { frames := 5, cells := 0, slots := 0, locals := 115 } s m args below meth c H locs 0 0 (cl_Zi below args s dd b r M') (F0 m 61 ls [.int z0]) := by
  have hx := C.1
  have hb := C.2.1
  have hlt := C.2.2.2.2.2.2.2.2.2.2
  have hRr := C.2.2.2.2.2.2.2.2.2.1
  intro M t0 a2 z0 r M' hf H locs ls ht0 hw hl
  unfold f_X6_minutesToFall_61 at hf
  refine lv_istore_n (lv' := [(3, .int z0), (0, .ref (b + t0)), (2, .int a2)]) hx hb dX6_minutesToFall_61 rfl hl (by decide) rfl (fun ls hl => ?_)
  refine lv_aload_n hx hb dX6_minutesToFall_62 rfl (lv_at hl 1 rfl) ?_
  refine lv_iload_n hx hb dX6_minutesToFall_63 rfl (lv_at hl 0 rfl) ?_
  refine lv_if_eq (tgt := 71) hx hb dX6_minutesToFall_64 (by decide) (fun c9 => ?_) (fun c9 => ?_)
  · have hf := cl_yes c9 hf
    refine lv_iconst (v := (-1)) hx hb dX6_minutesToFall_71 (by decide) ?_
    exact k_X6_minutesToFall_72 C M (-1) t0 _ _ hf _ _ _ ht0 hw (lv_sub hl [] rfl)
  · have hf := cl_no c9 hf
    refine lv_iload_n hx hb dX6_minutesToFall_67 rfl (lv_at hl 2 rfl) ?_
    refine lv_goto (tgt := 72) hx hb dX6_minutesToFall_68 (by decide) ?_
    exact k_X6_minutesToFall_72 C M a2 t0 _ _ hf _ _ _ ht0 hw (lv_sub hl [] rfl)
def f_X6_minutesToFall_60 (M : cl_M) (t0 : Nat) (a2 : Int32) : Option (Int32 × cl_M) := f_X6_minutesToFall_61 M t0 a2 0
set_option maxHeartbeats 4000000 in
set_option maxRecDepth 100000 in
theorem k_X6_minutesToFall_60 {p : Program} {l : Launch} {e : Env} {s : State} {m : MethodId} {args : Array Value} {below : List Frame} {meth : Method} {c : Code} {dd : cl_D} {b : Nat} (C : cl_C p l s m args meth c cX6_minutesToFall RX6 4 (some .int) dd b) : ∀ (M : cl_M) (t0 : Nat) (a2 : Int32) (r : Int32) (M' : cl_M), f_X6_minutesToFall_60 M t0 a2 = some (r, M') → ∀ (H : Heap) (locs : List Loc) (ls : Array Slot), cl_sh dd t0 = 6 → cl_H dd b M s H locs → lv_has ls 4 [(0, .ref (b + t0)), (2, .int a2)] → W p l e { frames := 5, cells := 0, slots := 0, locals := 115 } s m args below meth c H locs 0 0 (cl_Zi below args s dd b r M') (F0 m 60 ls []) := by
  have hx := C.1
  have hb := C.2.1
  have hlt := C.2.2.2.2.2.2.2.2.2.2
  have hRr := C.2.2.2.2.2.2.2.2.2.1
  intro M t0 a2 r M' hf H locs ls ht0 hw hl
  unfold f_X6_minutesToFall_60 at hf
  refine lv_iconst (v := 0) hx hb dX6_minutesToFall_60 (by decide) ?_
  exact k_X6_minutesToFall_61 C M t0 a2 0 _ _ hf _ _ _ ht0 hw (lv_sub hl [0, 1] rfl)
def f_X6_minutesToFall_43 (M : cl_M) (t0 : Nat) (a1 : Int32) (a2 : Int32) : Option (Int32 × cl_M) := if a2 ≤ 0 then f_X6_minutesToFall_60 M t0 a2 else (f_X6_isIn M t0 a1 2).bind (fun v13 => if v13 = 0 then f_X6_minutesToFall_60 M t0 a2 else f_X6_minutesToFall_61 M t0 a2 1)
set_option maxHeartbeats 4000000 in
set_option maxRecDepth 100000 in
theorem k_X6_minutesToFall_43 {p : Program} {l : Launch} {e : Env} {s : State} {m : MethodId} {args : Array Value} {below : List Frame} {meth : Method} {c : Code} {dd : cl_D} {b : Nat} (C : cl_C p l s m args meth c cX6_minutesToFall RX6 4 (some .int) dd b) : ∀ (M : cl_M) (t0 : Nat) (a1 : Int32) (a2 : Int32) (r : Int32) (M' : cl_M), f_X6_minutesToFall_43 M t0 a1 a2 = some (r, M') → ∀ (H : Heap) (locs : List Loc) (ls : Array Slot), cl_sh dd t0 = 6 → cl_H dd b M s H locs → lv_has ls 4 [(0, .ref (b + t0)), (1, .int a1), (2, .int a2)] → W p l e { frames := 5, cells := 0, slots := 0, locals := 115 } s m args below meth c H locs 0 0 (cl_Zi below args s dd b r M') (F0 m 43 ls []) := by
  have hx := C.1
  have hb := C.2.1
  have hlt := C.2.2.2.2.2.2.2.2.2.2
  have hRr := C.2.2.2.2.2.2.2.2.2.1
  intro M t0 a1 a2 r M' hf H locs ls ht0 hw hl
  unfold f_X6_minutesToFall_43 at hf
  refine lv_iload_n hx hb dX6_minutesToFall_43 rfl (lv_at hl 2 rfl) ?_
  refine lv_if_le (tgt := 60) hx hb dX6_minutesToFall_44 (by decide) (fun c8 => ?_) (fun c8 => ?_)
  · have hf := cl_yes c8 hf
    exact k_X6_minutesToFall_60 C M t0 a2 _ _ hf _ _ _ ht0 hw (lv_sub hl [0, 2] rfl)
  · have hf := cl_no c8 hf
    refine lv_aload_n hx hb dX6_minutesToFall_47 rfl (lv_at hl 0 rfl) ?_
    refine lv_iload_n hx hb dX6_minutesToFall_48 rfl (lv_at hl 1 rfl) ?_
    refine lv_iconst (v := 2) hx hb dX6_minutesToFall_49 (by decide) ?_
    obtain ⟨v13, e14, hf⟩ := cl_bind_e hf
    refine cr_Vi C hw (c_X6_isIn hlt ht0 e14) cy_X6_isIn vy_X6_isIn ml_X6_84 (cl_lt ht0 (by decide)) (cl_e6 ht0) rfl rfl (As := [.int a1, .int 2]) rfl hl.1 rfl ⟨⟨Nat.le_of_ble_eq_true rfl, Nat.le_of_ble_eq_true rfl⟩, Nat.le_of_ble_eq_true rfl, Nat.le_of_ble_eq_true rfl, Nat.le_of_ble_eq_true rfl⟩ dX6_minutesToFall_50 (fun H locs hw => ?_)
    refine lv_if_eq (tgt := 60) hx hb dX6_minutesToFall_53 (by decide) (fun c15 => ?_) (fun c15 => ?_)
    · have hf := cl_yes c15 hf
      exact k_X6_minutesToFall_60 C M t0 a2 _ _ hf _ _ _ ht0 hw (lv_sub hl [0, 2] rfl)
    · have hf := cl_no c15 hf
      refine lv_iconst (v := 1) hx hb dX6_minutesToFall_56 (by decide) ?_
      refine lv_goto (tgt := 61) hx hb dX6_minutesToFall_57 (by decide) ?_
      exact k_X6_minutesToFall_61 C M t0 a2 1 _ _ hf _ _ _ ht0 hw (lv_sub hl [0, 2] rfl)
def f_X6_minutesToFall_16 : Nat → cl_M → Nat → Int32 → Int32 → Option (Int32 × cl_M)
  | 0, _, _, _, _ => none
  | k + 1, M, t0, a1, a2 => if 500 ≤ a2 then f_X6_minutesToFall_43 M t0 a1 a2 else (f_X6_isIn M t0 a1 1).bind (fun v16 => if v16 = 0 then f_X6_minutesToFall_43 M t0 a1 a2 else cl_b2 (f_X6_passMinute M t0) (fun v19 M20 => cl_let (a2 + 1) (fun v22 => f_X6_minutesToFall_16 k M20 t0 a1 v22)))
set_option maxHeartbeats 4000000 in
set_option maxRecDepth 100000 in
theorem k_X6_minutesToFall_16 {p : Program} {l : Launch} {e : Env} {s : State} {m : MethodId} {args : Array Value} {below : List Frame} {meth : Method} {c : Code} {dd : cl_D} {b : Nat} (C : cl_C p l s m args meth c cX6_minutesToFall RX6 4 (some .int) dd b) : ∀ (k : Nat), ∀ (M : cl_M) (t0 : Nat) (a1 : Int32) (a2 : Int32) (r : Int32) (M' : cl_M), f_X6_minutesToFall_16 k M t0 a1 a2 = some (r, M') → ∀ (H : Heap) (locs : List Loc) (ls : Array Slot), cl_sh dd t0 = 6 → cl_H dd b M s H locs → lv_has ls 4 [(0, .ref (b + t0)), (1, .int a1), (2, .int a2)] → W p l e { frames := 5, cells := 0, slots := 0, locals := 115 } s m args below meth c H locs 0 0 (cl_Zi below args s dd b r M') (F0 m 16 ls []) := by
  have hx := C.1
  have hb := C.2.1
  have hlt := C.2.2.2.2.2.2.2.2.2.2
  have hRr := C.2.2.2.2.2.2.2.2.2.1
  intro k
  induction k with
  | zero =>
    intro M t0 a1 a2 r M' hf H locs ls ht0 hw hl
    rw [f_X6_minutesToFall_16] at hf
    cases hf
  | succ k ih =>
    intro M t0 a1 a2 r M' hf H locs ls ht0 hw hl
    rw [f_X6_minutesToFall_16] at hf
    refine lv_iload_n hx hb dX6_minutesToFall_16 rfl (lv_at hl 2 rfl) ?_
    refine lv_sipush (v := 500) hx hb dX6_minutesToFall_17 (by decide) ?_
    refine lv_icmp_ge (tgt := 43) hx hb dX6_minutesToFall_20 (by decide) (fun c7 => ?_) (fun c7 => ?_)
    · have hf := cl_yes c7 hf
      exact k_X6_minutesToFall_43 C M t0 a1 a2 _ _ hf _ _ _ ht0 hw (lv_sub hl [0, 1, 2] rfl)
    · have hf := cl_no c7 hf
      refine lv_aload_n hx hb dX6_minutesToFall_23 rfl (lv_at hl 0 rfl) ?_
      refine lv_iload_n hx hb dX6_minutesToFall_24 rfl (lv_at hl 1 rfl) ?_
      refine lv_iconst (v := 1) hx hb dX6_minutesToFall_25 (by decide) ?_
      obtain ⟨v16, e17, hf⟩ := cl_bind_e hf
      refine cr_Vi C hw (c_X6_isIn hlt ht0 e17) cy_X6_isIn vy_X6_isIn ml_X6_84 (cl_lt ht0 (by decide)) (cl_e6 ht0) rfl rfl (As := [.int a1, .int 1]) rfl hl.1 rfl ⟨⟨Nat.le_of_ble_eq_true rfl, Nat.le_of_ble_eq_true rfl⟩, Nat.le_of_ble_eq_true rfl, Nat.le_of_ble_eq_true rfl, Nat.le_of_ble_eq_true rfl⟩ dX6_minutesToFall_26 (fun H locs hw => ?_)
      refine lv_if_eq (tgt := 43) hx hb dX6_minutesToFall_29 (by decide) (fun c18 => ?_) (fun c18 => ?_)
      · have hf := cl_yes c18 hf
        exact k_X6_minutesToFall_43 C M t0 a1 a2 _ _ hf _ _ _ ht0 hw (lv_sub hl [0, 1, 2] rfl)
      · have hf := cl_no c18 hf
        refine lv_aload_n hx hb dX6_minutesToFall_32 rfl (lv_at hl 0 rfl) ?_
        obtain ⟨v19, M20, e21, hf⟩ := cl_b2_e hf
        refine cr_Vi C hw (c_X6_passMinute hlt ht0 e21) cy_X6_passMinute vy_X6_passMinute ml_X6_150 (cl_lt ht0 (by decide)) (cl_e6 ht0) rfl rfl (As := []) rfl hl.1 rfl ⟨⟨Nat.le_of_ble_eq_true rfl, Nat.le_of_ble_eq_true rfl⟩, Nat.le_of_ble_eq_true rfl, Nat.le_of_ble_eq_true rfl, Nat.le_of_ble_eq_true rfl⟩ dX6_minutesToFall_33 (fun H locs hw => ?_)
        refine lv_istore_n (lv' := [(3, .int v19), (0, .ref (b + t0)), (1, .int a1), (2, .int a2)]) hx hb dX6_minutesToFall_36 rfl hl (by decide) rfl (fun ls hl => ?_)
        obtain ⟨v22, ev22, hf⟩ := cl_let_e hf
        refine lv_iinc (v := v22) (lv' := [(2, .int v22), (3, .int v19), (0, .ref (b + t0)), (1, .int a1)]) hx hb dX6_minutesToFall_37 hl (k := 3) rfl (by rw [ev22]; rfl) (by decide) rfl (fun ls hl => ?_)
        refine lv_goto (tgt := 16) hx hb dX6_minutesToFall_40 (by decide) ?_
        exact ih M20 t0 a1 v22 _ _ hf _ _ _ ht0 hw (lv_sub hl [2, 3, 0] rfl)
def f_X6_minutesToFall (M : cl_M) (t0 : Nat) (a1 : Int32) : Option (Int32 × cl_M) := cl_b2 (f_X6_isGarment M t0 a1) (fun v1 M2 => if v1 = 0 then some (0, M2) else (f_X6_startTrial M2 t0).bind (fun M5 => f_X6_minutesToFall_16 cl_F M5 t0 a1 0))
set_option maxHeartbeats 4000000 in
set_option maxRecDepth 100000 in
theorem k_X6_minutesToFall {p : Program} {l : Launch} {e : Env} {s : State} {m : MethodId} {args : Array Value} {below : List Frame} {meth : Method} {c : Code} {dd : cl_D} {b : Nat} (C : cl_C p l s m args meth c cX6_minutesToFall RX6 4 (some .int) dd b) : ∀ (M : cl_M) (t0 : Nat) (a1 : Int32) (r : Int32) (M' : cl_M), f_X6_minutesToFall M t0 a1 = some (r, M') → ∀ (H : Heap) (locs : List Loc) (ls : Array Slot), cl_sh dd t0 = 6 → cl_H dd b M s H locs → lv_has ls 4 [(0, .ref (b + t0)), (1, .int a1)] → W p l e { frames := 5, cells := 0, slots := 0, locals := 115 } s m args below meth c H locs 0 0 (cl_Zi below args s dd b r M') (F0 m 0 ls []) := by
  have hx := C.1
  have hb := C.2.1
  have hlt := C.2.2.2.2.2.2.2.2.2.2
  have hRr := C.2.2.2.2.2.2.2.2.2.1
  intro M t0 a1 r M' hf H locs ls ht0 hw hl
  unfold f_X6_minutesToFall at hf
  refine lv_aload_n hx hb dX6_minutesToFall_0 rfl (lv_at hl 0 rfl) ?_
  refine lv_iload_n hx hb dX6_minutesToFall_1 rfl (lv_at hl 1 rfl) ?_
  obtain ⟨v1, M2, e3, hf⟩ := cl_b2_e hf
  refine cr_Vi C hw (c_X6_isGarment hlt ht0 e3) cy_X6_isGarment vy_X6_isGarment ml_X6_332 (cl_lt ht0 (by decide)) (cl_e6 ht0) rfl rfl (As := [.int a1]) rfl hl.1 rfl ⟨⟨Nat.le_of_ble_eq_true rfl, Nat.le_of_ble_eq_true rfl⟩, Nat.le_of_ble_eq_true rfl, Nat.le_of_ble_eq_true rfl, Nat.le_of_ble_eq_true rfl⟩ dX6_minutesToFall_2 (fun H locs hw => ?_)
  refine lv_if_ne (tgt := 10) hx hb dX6_minutesToFall_5 (by decide) (fun c4 => ?_) (fun c4 => ?_)
  · have hf := cl_no c4 hf
    refine lv_aload_n hx hb dX6_minutesToFall_10 rfl (lv_at hl 0 rfl) ?_
    obtain ⟨M5, e6, hf⟩ := cl_bind_e hf
    refine cr_Vv C hw (c_X6_startTrial hlt ht0 e6) cy_X6_startTrial vy_X6_startTrial ml_X6_292 (cl_lt ht0 (by decide)) (cl_e6 ht0) rfl rfl (As := []) rfl hl.1 rfl ⟨⟨Nat.le_of_ble_eq_true rfl, Nat.le_of_ble_eq_true rfl⟩, Nat.le_of_ble_eq_true rfl, Nat.le_of_ble_eq_true rfl, Nat.le_of_ble_eq_true rfl⟩ dX6_minutesToFall_11 (fun H locs hw => ?_)
    refine lv_iconst (v := 0) hx hb dX6_minutesToFall_14 (by decide) ?_
    refine lv_istore_n (lv' := [(2, .int 0), (0, .ref (b + t0)), (1, .int a1)]) hx hb dX6_minutesToFall_15 rfl hl (by decide) rfl (fun ls hl => ?_)
    exact k_X6_minutesToFall_16 C cl_F M5 t0 a1 0 _ _ hf _ _ _ ht0 hw (lv_sub hl [1, 2, 0] rfl)
  · have hf := cl_yes c4 hf
    refine lv_iconst (v := 0) hx hb dX6_minutesToFall_8 (by decide) ?_
    obtain ⟨rfl, rfl⟩ := cl_pair hf
    exact cr_reti C hw dX6_minutesToFall_9
set_option maxRecDepth 100000 in
theorem c_X6_minutesToFall {l : Launch} {dd : cl_D} {b : Nat} (hlt : l.stackTraces = false) {M : cl_M} {t0 : Nat} {a1 : Int32}  {r : Int32} {M' : cl_M} (ht0 : cl_sh dd t0 = 6) (h : f_X6_minutesToFall M t0 a1 = some (r, M')) : cl_Mi l dd b yX6_minutesToFall cX6_minutesToFall 4 (some .int) 5 115 [.ref (b + t0), .int a1] M r M' :=
  cl_of hlt (by decide) (Nat.le_of_ble_eq_true rfl) (fun p e s m below meth c ls C hw hl => k_X6_minutesToFall C M t0 a1 r M' h _ _ _ ht0 hw (lv_sub hl [0, 1] rfl))
theorem cy_X6_minutesToFall : cl_cy yX6_minutesToFall cX6_minutesToFall 4 (some .int) 1 := ⟨in_ClothesLineModel, cd_X6_minutesToFall, by decide +kernel, by decide +kernel, by decide +kernel⟩
theorem vy_X6_minutesToFall : cl_vy yX6_minutesToFall := ⟨im_X6_minutesToFall, se_X6_minutesToFall⟩
def f_X6_garmentsAtRisk (M : cl_M) (t0 : Nat) : Option (Int32 × cl_M) := cl_let (cl_ms M t0 4 0) (fun M1 => (f_X6_setIn M1 t0 1).bind (fun v2 => (f_X6_startTrial M1 t0).bind (fun M4 => cl_b2 (f_X6_passAll M4 t0 60) (fun v6 M7 => (f_X6_setIn M7 t0 2).bind (fun v9 => cl_b2 (f_X6_putBack M7 t0 (v2 &&& v9)) (fun v11 M12 => some (v11, M12)))))))
set_option maxHeartbeats 4000000 in
set_option maxRecDepth 100000 in
theorem k_X6_garmentsAtRisk {p : Program} {l : Launch} {e : Env} {s : State} {m : MethodId} {args : Array Value} {below : List Frame} {meth : Method} {c : Code} {dd : cl_D} {b : Nat} (C : cl_C p l s m args meth c cX6_garmentsAtRisk RX6 3 (some .int) dd b) : ∀ (M : cl_M) (t0 : Nat) (r : Int32) (M' : cl_M), f_X6_garmentsAtRisk M t0 = some (r, M') → ∀ (H : Heap) (locs : List Loc) (ls : Array Slot), cl_sh dd t0 = 6 → cl_H dd b M s H locs → lv_has ls 3 [(0, .ref (b + t0))] → W p l e { frames := 6, cells := 0, slots := 0, locals := 138 } s m args below meth c H locs 0 0 (cl_Zi below args s dd b r M') (F0 m 0 ls []) := by
  have hx := C.1
  have hb := C.2.1
  have hlt := C.2.2.2.2.2.2.2.2.2.2
  have hRr := C.2.2.2.2.2.2.2.2.2.1
  intro M t0 r M' hf H locs ls ht0 hw hl
  unfold f_X6_garmentsAtRisk at hf
  refine lv_aload_n hx hb dX6_garmentsAtRisk_0 rfl (lv_at hl 0 rfl) ?_
  refine lv_iconst (v := 0) hx hb dX6_garmentsAtRisk_1 (by decide) ?_
  obtain ⟨M1, eM1, hf⟩ := cl_let_e hf
  refine fp_X6_60 C hw ht0 eM1 dX6_garmentsAtRisk_2 (fun H locs hw => ?_)
  refine lv_aload_n hx hb dX6_garmentsAtRisk_5 rfl (lv_at hl 0 rfl) ?_
  refine lv_iconst (v := 1) hx hb dX6_garmentsAtRisk_6 (by decide) ?_
  obtain ⟨v2, e3, hf⟩ := cl_bind_e hf
  refine cr_Vi C hw (c_X6_setIn hlt ht0 e3) cy_X6_setIn vy_X6_setIn ml_X6_153 (cl_lt ht0 (by decide)) (cl_e6 ht0) rfl rfl (As := [.int 1]) rfl hl.1 rfl ⟨⟨Nat.le_of_ble_eq_true rfl, Nat.le_of_ble_eq_true rfl⟩, Nat.le_of_ble_eq_true rfl, Nat.le_of_ble_eq_true rfl, Nat.le_of_ble_eq_true rfl⟩ dX6_garmentsAtRisk_7 (fun H locs hw => ?_)
  refine lv_istore_n (lv' := [(1, .int v2), (0, .ref (b + t0))]) hx hb dX6_garmentsAtRisk_10 rfl hl (by decide) rfl (fun ls hl => ?_)
  refine lv_aload_n hx hb dX6_garmentsAtRisk_11 rfl (lv_at hl 1 rfl) ?_
  obtain ⟨M4, e5, hf⟩ := cl_bind_e hf
  refine cr_Vv C hw (c_X6_startTrial hlt ht0 e5) cy_X6_startTrial vy_X6_startTrial ml_X6_292 (cl_lt ht0 (by decide)) (cl_e6 ht0) rfl rfl (As := []) rfl hl.1 rfl ⟨⟨Nat.le_of_ble_eq_true rfl, Nat.le_of_ble_eq_true rfl⟩, Nat.le_of_ble_eq_true rfl, Nat.le_of_ble_eq_true rfl, Nat.le_of_ble_eq_true rfl⟩ dX6_garmentsAtRisk_12 (fun H locs hw => ?_)
  refine lv_aload_n hx hb dX6_garmentsAtRisk_15 rfl (lv_at hl 1 rfl) ?_
  refine lv_bipush (v := 60) hx hb dX6_garmentsAtRisk_16 (by decide) ?_
  obtain ⟨v6, M7, e8, hf⟩ := cl_b2_e hf
  refine cr_Vi C hw (c_X6_passAll hlt ht0 e8) cy_X6_passAll vy_X6_passAll ml_X6_280 (cl_lt ht0 (by decide)) (cl_e6 ht0) rfl rfl (As := [.int 60]) rfl hl.1 rfl ⟨⟨Nat.le_of_ble_eq_true rfl, Nat.le_of_ble_eq_true rfl⟩, Nat.le_of_ble_eq_true rfl, Nat.le_of_ble_eq_true rfl, Nat.le_of_ble_eq_true rfl⟩ dX6_garmentsAtRisk_18 (fun H locs hw => ?_)
  refine lv_istore_n (lv' := [(2, .int v6), (1, .int v2), (0, .ref (b + t0))]) hx hb dX6_garmentsAtRisk_21 rfl hl (by decide) rfl (fun ls hl => ?_)
  refine lv_aload_n hx hb dX6_garmentsAtRisk_22 rfl (lv_at hl 2 rfl) ?_
  refine lv_iload_n hx hb dX6_garmentsAtRisk_23 rfl (lv_at hl 1 rfl) ?_
  refine lv_aload_n hx hb dX6_garmentsAtRisk_24 rfl (lv_at hl 2 rfl) ?_
  refine lv_iconst (v := 2) hx hb dX6_garmentsAtRisk_25 (by decide) ?_
  obtain ⟨v9, e10, hf⟩ := cl_bind_e hf
  refine cr_Vi C hw (c_X6_setIn hlt ht0 e10) cy_X6_setIn vy_X6_setIn ml_X6_153 (cl_lt ht0 (by decide)) (cl_e6 ht0) rfl rfl (As := [.int 2]) rfl hl.1 rfl ⟨⟨Nat.le_of_ble_eq_true rfl, Nat.le_of_ble_eq_true rfl⟩, Nat.le_of_ble_eq_true rfl, Nat.le_of_ble_eq_true rfl, Nat.le_of_ble_eq_true rfl⟩ dX6_garmentsAtRisk_26 (fun H locs hw => ?_)
  refine lv_iand hx hb dX6_garmentsAtRisk_29 ?_
  obtain ⟨v11, M12, e13, hf⟩ := cl_b2_e hf
  refine cr_Vi C hw (c_X6_putBack hlt ht0 e13) cy_X6_putBack vy_X6_putBack ml_X6_301 (cl_lt ht0 (by decide)) (cl_e6 ht0) rfl rfl (As := [.int (v2 &&& v9)]) rfl hl.1 rfl ⟨⟨Nat.le_of_ble_eq_true rfl, Nat.le_of_ble_eq_true rfl⟩, Nat.le_of_ble_eq_true rfl, Nat.le_of_ble_eq_true rfl, Nat.le_of_ble_eq_true rfl⟩ dX6_garmentsAtRisk_30 (fun H locs hw => ?_)
  obtain ⟨rfl, rfl⟩ := cl_pair hf
  exact cr_reti C hw dX6_garmentsAtRisk_33
set_option maxRecDepth 100000 in
theorem c_X6_garmentsAtRisk {l : Launch} {dd : cl_D} {b : Nat} (hlt : l.stackTraces = false) {M : cl_M} {t0 : Nat}  {r : Int32} {M' : cl_M} (ht0 : cl_sh dd t0 = 6) (h : f_X6_garmentsAtRisk M t0 = some (r, M')) : cl_Mi l dd b yX6_garmentsAtRisk cX6_garmentsAtRisk 3 (some .int) 6 138 [.ref (b + t0)] M r M' :=
  cl_of hlt (by decide) (Nat.le_of_ble_eq_true rfl) (fun p e s m below meth c ls C hw hl => k_X6_garmentsAtRisk C M t0 r M' h _ _ _ ht0 hw (lv_sub hl [0] rfl))
theorem cy_X6_garmentsAtRisk : cl_cy yX6_garmentsAtRisk cX6_garmentsAtRisk 3 (some .int) 0 := ⟨in_ClothesLineModel, cd_X6_garmentsAtRisk, by decide +kernel, by decide +kernel, by decide +kernel⟩
theorem vy_X6_garmentsAtRisk : cl_vy yX6_garmentsAtRisk := ⟨im_X6_garmentsAtRisk, se_X6_garmentsAtRisk⟩
def f_X6_waterOn_22 : Nat → cl_M → Nat → Int32 → Int32 → Option (Int32 × cl_M)
  | 0, _, _, _, _ => none
  | k + 1, M, t0, a1, a3 => if 60 ≤ a3 then (f_X6_of M t0 a1 3).bind (fun v8 => cl_b2 (f_X6_putBack M t0 v8) (fun v10 M11 => some (v10, M11))) else (f_X6_water M t0 a1 ((M (t0 + 2) 0) + a3)).bind (fun M13 => cl_let (a3 + 1) (fun v15 => f_X6_waterOn_22 k M13 t0 a1 v15))
set_option maxHeartbeats 4000000 in
set_option maxRecDepth 100000 in
theorem k_X6_waterOn_22 {p : Program} {l : Launch} {e : Env} {s : State} {m : MethodId} {args : Array Value} {below : List Frame} {meth : Method} {c : Code} {dd : cl_D} {b : Nat} (C : cl_C p l s m args meth c cX6_waterOn RX6 4 (some .int) dd b) : ∀ (k : Nat), ∀ (M : cl_M) (t0 : Nat) (a1 : Int32) (a3 : Int32) (r : Int32) (M' : cl_M), f_X6_waterOn_22 k M t0 a1 a3 = some (r, M') → ∀ (H : Heap) (locs : List Loc) (ls : Array Slot), cl_sh dd t0 = 6 → cl_H dd b M s H locs → lv_has ls 4 [(0, .ref (b + t0)), (1, .int a1), (3, .int a3)] → W p l e { frames := 4, cells := 0, slots := 0, locals := 92 } s m args below meth c H locs 0 0 (cl_Zi below args s dd b r M') (F0 m 22 ls []) := by
  have hx := C.1
  have hb := C.2.1
  have hlt := C.2.2.2.2.2.2.2.2.2.2
  have hRr := C.2.2.2.2.2.2.2.2.2.1
  intro k
  induction k with
  | zero =>
    intro M t0 a1 a3 r M' hf H locs ls ht0 hw hl
    rw [f_X6_waterOn_22] at hf
    cases hf
  | succ k ih =>
    intro M t0 a1 a3 r M' hf H locs ls ht0 hw hl
    rw [f_X6_waterOn_22] at hf
    refine lv_iload_n hx hb dX6_waterOn_22 rfl (lv_at hl 2 rfl) ?_
    refine lv_bipush (v := 60) hx hb dX6_waterOn_23 (by decide) ?_
    refine lv_icmp_ge (tgt := 47) hx hb dX6_waterOn_25 (by decide) (fun c7 => ?_) (fun c7 => ?_)
    · have hf := cl_yes c7 hf
      refine lv_aload_n hx hb dX6_waterOn_47 rfl (lv_at hl 0 rfl) ?_
      refine lv_aload_n hx hb dX6_waterOn_48 rfl (lv_at hl 0 rfl) ?_
      refine lv_iload_n hx hb dX6_waterOn_49 rfl (lv_at hl 1 rfl) ?_
      refine lv_iconst (v := 3) hx hb dX6_waterOn_50 (by decide) ?_
      obtain ⟨v8, e9, hf⟩ := cl_bind_e hf
      refine cr_Vi C hw (c_X6_of hlt ht0 e9) cy_X6_of vy_X6_of ml_X6_81 (cl_lt ht0 (by decide)) (cl_e6 ht0) rfl rfl (As := [.int a1, .int 3]) rfl hl.1 rfl ⟨⟨Nat.le_of_ble_eq_true rfl, Nat.le_of_ble_eq_true rfl⟩, Nat.le_of_ble_eq_true rfl, Nat.le_of_ble_eq_true rfl, Nat.le_of_ble_eq_true rfl⟩ dX6_waterOn_51 (fun H locs hw => ?_)
      obtain ⟨v10, M11, e12, hf⟩ := cl_b2_e hf
      refine cr_Vi C hw (c_X6_putBack hlt ht0 e12) cy_X6_putBack vy_X6_putBack ml_X6_301 (cl_lt ht0 (by decide)) (cl_e6 ht0) rfl rfl (As := [.int v8]) rfl hl.1 rfl ⟨⟨Nat.le_of_ble_eq_true rfl, Nat.le_of_ble_eq_true rfl⟩, Nat.le_of_ble_eq_true rfl, Nat.le_of_ble_eq_true rfl, Nat.le_of_ble_eq_true rfl⟩ dX6_waterOn_54 (fun H locs hw => ?_)
      obtain ⟨rfl, rfl⟩ := cl_pair hf
      exact cr_reti C hw dX6_waterOn_57
    · have hf := cl_no c7 hf
      refine lv_aload_n hx hb dX6_waterOn_28 rfl (lv_at hl 0 rfl) ?_
      refine lv_iload_n hx hb dX6_waterOn_29 rfl (lv_at hl 1 rfl) ?_
      refine lv_aload_n hx hb dX6_waterOn_30 rfl (lv_at hl 0 rfl) ?_
      refine fg_X6_17 C hw ht0 dX6_waterOn_31 ?_
      refine lv_iconst (v := 0) hx hb dX6_waterOn_34 (by decide) ?_
      refine cr_iald C hw (sh_6_5 ht0).1 (sh_6_5 ht0).2 (by decide) (k := 0) rfl dX6_waterOn_35 ?_
      refine lv_iload_n hx hb dX6_waterOn_36 rfl (lv_at hl 2 rfl) ?_
      refine lv_iadd hx hb dX6_waterOn_37 ?_
      obtain ⟨M13, e14, hf⟩ := cl_bind_e hf
      refine cr_Vv C hw (c_X6_water hlt ht0 e14) cy_X6_water vy_X6_water ml_X6_136 (cl_lt ht0 (by decide)) (cl_e6 ht0) rfl rfl (As := [.int a1, .int ((M (t0 + 2) 0) + a3)]) rfl hl.1 rfl ⟨⟨Nat.le_of_ble_eq_true rfl, Nat.le_of_ble_eq_true rfl⟩, Nat.le_of_ble_eq_true rfl, Nat.le_of_ble_eq_true rfl, Nat.le_of_ble_eq_true rfl⟩ dX6_waterOn_38 (fun H locs hw => ?_)
      obtain ⟨v15, ev15, hf⟩ := cl_let_e hf
      refine lv_iinc (v := v15) (lv' := [(3, .int v15), (0, .ref (b + t0)), (1, .int a1)]) hx hb dX6_waterOn_41 hl (k := 2) rfl (by rw [ev15]; rfl) (by decide) rfl (fun ls hl => ?_)
      refine lv_goto (tgt := 22) hx hb dX6_waterOn_44 (by decide) ?_
      exact ih M13 t0 a1 v15 _ _ hf _ _ _ ht0 hw (lv_sub hl [1, 2, 0] rfl)
def f_X6_waterOn (M : cl_M) (t0 : Nat) (a1 : Int32) (a2 : Int32) : Option (Int32 × cl_M) := (f_X6_startTrial M t0).bind (fun M1 => (f_X6_put M1 t0 a1 6 1).bind (fun M3 => (f_X6_put M3 t0 a1 7 a2).bind (fun M5 => f_X6_waterOn_22 cl_F M5 t0 a1 0)))
set_option maxHeartbeats 4000000 in
set_option maxRecDepth 100000 in
theorem k_X6_waterOn {p : Program} {l : Launch} {e : Env} {s : State} {m : MethodId} {args : Array Value} {below : List Frame} {meth : Method} {c : Code} {dd : cl_D} {b : Nat} (C : cl_C p l s m args meth c cX6_waterOn RX6 4 (some .int) dd b) : ∀ (M : cl_M) (t0 : Nat) (a1 : Int32) (a2 : Int32) (r : Int32) (M' : cl_M), f_X6_waterOn M t0 a1 a2 = some (r, M') → ∀ (H : Heap) (locs : List Loc) (ls : Array Slot), cl_sh dd t0 = 6 → cl_H dd b M s H locs → lv_has ls 4 [(0, .ref (b + t0)), (1, .int a1), (2, .int a2)] → W p l e { frames := 4, cells := 0, slots := 0, locals := 92 } s m args below meth c H locs 0 0 (cl_Zi below args s dd b r M') (F0 m 0 ls []) := by
  have hx := C.1
  have hb := C.2.1
  have hlt := C.2.2.2.2.2.2.2.2.2.2
  have hRr := C.2.2.2.2.2.2.2.2.2.1
  intro M t0 a1 a2 r M' hf H locs ls ht0 hw hl
  unfold f_X6_waterOn at hf
  refine lv_aload_n hx hb dX6_waterOn_0 rfl (lv_at hl 0 rfl) ?_
  obtain ⟨M1, e2, hf⟩ := cl_bind_e hf
  refine cr_Vv C hw (c_X6_startTrial hlt ht0 e2) cy_X6_startTrial vy_X6_startTrial ml_X6_292 (cl_lt ht0 (by decide)) (cl_e6 ht0) rfl rfl (As := []) rfl hl.1 rfl ⟨⟨Nat.le_of_ble_eq_true rfl, Nat.le_of_ble_eq_true rfl⟩, Nat.le_of_ble_eq_true rfl, Nat.le_of_ble_eq_true rfl, Nat.le_of_ble_eq_true rfl⟩ dX6_waterOn_1 (fun H locs hw => ?_)
  refine lv_aload_n hx hb dX6_waterOn_4 rfl (lv_at hl 0 rfl) ?_
  refine lv_iload_n hx hb dX6_waterOn_5 rfl (lv_at hl 1 rfl) ?_
  refine lv_bipush (v := 6) hx hb dX6_waterOn_6 (by decide) ?_
  refine lv_iconst (v := 1) hx hb dX6_waterOn_8 (by decide) ?_
  obtain ⟨M3, e4, hf⟩ := cl_bind_e hf
  refine cr_Vv C hw (c_X6_put hlt ht0 e4) cy_X6_put vy_X6_put ml_X6_106 (cl_lt ht0 (by decide)) (cl_e6 ht0) rfl rfl (As := [.int a1, .int 6, .int 1]) rfl hl.1 rfl ⟨⟨Nat.le_of_ble_eq_true rfl, Nat.le_of_ble_eq_true rfl⟩, Nat.le_of_ble_eq_true rfl, Nat.le_of_ble_eq_true rfl, Nat.le_of_ble_eq_true rfl⟩ dX6_waterOn_9 (fun H locs hw => ?_)
  refine lv_aload_n hx hb dX6_waterOn_12 rfl (lv_at hl 0 rfl) ?_
  refine lv_iload_n hx hb dX6_waterOn_13 rfl (lv_at hl 1 rfl) ?_
  refine lv_bipush (v := 7) hx hb dX6_waterOn_14 (by decide) ?_
  refine lv_iload_n hx hb dX6_waterOn_16 rfl (lv_at hl 2 rfl) ?_
  obtain ⟨M5, e6, hf⟩ := cl_bind_e hf
  refine cr_Vv C hw (c_X6_put hlt ht0 e6) cy_X6_put vy_X6_put ml_X6_106 (cl_lt ht0 (by decide)) (cl_e6 ht0) rfl rfl (As := [.int a1, .int 7, .int a2]) rfl hl.1 rfl ⟨⟨Nat.le_of_ble_eq_true rfl, Nat.le_of_ble_eq_true rfl⟩, Nat.le_of_ble_eq_true rfl, Nat.le_of_ble_eq_true rfl, Nat.le_of_ble_eq_true rfl⟩ dX6_waterOn_17 (fun H locs hw => ?_)
  refine lv_iconst (v := 0) hx hb dX6_waterOn_20 (by decide) ?_
  refine lv_istore_n (lv' := [(3, .int 0), (0, .ref (b + t0)), (1, .int a1), (2, .int a2)]) hx hb dX6_waterOn_21 rfl hl (by decide) rfl (fun ls hl => ?_)
  exact k_X6_waterOn_22 C cl_F M5 t0 a1 0 _ _ hf _ _ _ ht0 hw (lv_sub hl [1, 2, 0] rfl)
set_option maxRecDepth 100000 in
theorem c_X6_waterOn {l : Launch} {dd : cl_D} {b : Nat} (hlt : l.stackTraces = false) {M : cl_M} {t0 : Nat} {a1 : Int32} {a2 : Int32}  {r : Int32} {M' : cl_M} (ht0 : cl_sh dd t0 = 6) (h : f_X6_waterOn M t0 a1 a2 = some (r, M')) : cl_Mi l dd b yX6_waterOn cX6_waterOn 4 (some .int) 4 92 [.ref (b + t0), .int a1, .int a2] M r M' :=
  cl_of hlt (by decide) (Nat.le_of_ble_eq_true rfl) (fun p e s m below meth c ls C hw hl => k_X6_waterOn C M t0 a1 a2 r M' h _ _ _ ht0 hw (lv_sub hl [0, 1, 2] rfl))
theorem cy_X6_waterOn : cl_cy yX6_waterOn cX6_waterOn 4 (some .int) 2 := ⟨in_ClothesLineModel, cd_X6_waterOn, by decide +kernel, by decide +kernel, by decide +kernel⟩
theorem vy_X6_waterOn : cl_vy yX6_waterOn := ⟨im_X6_waterOn, se_X6_waterOn⟩
def f_X6_bestSpot_91 (M : cl_M) (a2 : Int32) : Option (Int32 × cl_M) := some (a2, M)
set_option maxHeartbeats 4000000 in
set_option maxRecDepth 100000 in
theorem k_X6_bestSpot_91 {p : Program} {l : Launch} {e : Env} {s : State} {m : MethodId} {args : Array Value} {below : List Frame} {meth : Method} {c : Code} {dd : cl_D} {b : Nat} (C : cl_C p l s m args meth c cX6_bestSpot RX6 6 (some .int) dd b) : ∀ (M : cl_M) (a2 : Int32) (r : Int32) (M' : cl_M), f_X6_bestSpot_91 M a2 = some (r, M') → ∀ (H : Heap) (locs : List Loc) (ls : Array Slot), cl_H dd b M s H locs → lv_has ls 6 [(2, .int a2)] → W p l e { frames := 5, cells := 0, slots := 0, locals := 115 } s m args below meth c H locs 0 0 (cl_Zi below args s dd b r M') (F0 m 91 ls []) := by
  have hx := C.1
  have hb := C.2.1
  have hlt := C.2.2.2.2.2.2.2.2.2.2
  have hRr := C.2.2.2.2.2.2.2.2.2.1
  intro M a2 r M' hf H locs ls hw hl
  unfold f_X6_bestSpot_91 at hf
  refine lv_iload_n hx hb dX6_bestSpot_91 rfl (lv_at hl 0 rfl) ?_
  obtain ⟨rfl, rfl⟩ := cl_pair hf
  exact cr_reti C hw dX6_bestSpot_92
def f_X6_bestSpot_85 (r17 : cl_M → Nat → Int32 → Int32 → Int32 → Int32 → Option (Int32 × cl_M)) (M : cl_M) (t0 : Nat) (a1 : Int32) (a2 : Int32) (a3 : Int32) (a4 : Int32) : Option (Int32 × cl_M) := cl_let (a4 + 1) (fun v17 => r17 M t0 a1 a2 a3 v17)
set_option maxHeartbeats 4000000 in
set_option maxRecDepth 100000 in
theorem k_X6_bestSpot_85 {p : Program} {l : Launch} {e : Env} {s : State} {m : MethodId} {args : Array Value} {below : List Frame} {meth : Method} {c : Code} {dd : cl_D} {b : Nat} (C : cl_C p l s m args meth c cX6_bestSpot RX6 6 (some .int) dd b) {r17 : cl_M → Nat → Int32 → Int32 → Int32 → Int32 → Option (Int32 × cl_M)} (hr17 : ∀ (M : cl_M) (t0 : Nat) (a1 : Int32) (a2 : Int32) (a3 : Int32) (a4 : Int32) (r : Int32) (M' : cl_M), r17 M t0 a1 a2 a3 a4 = some (r, M') → ∀ (H : Heap) (locs : List Loc) (ls : Array Slot), cl_sh dd t0 = 6 → cl_H dd b M s H locs → lv_has ls 6 [(0, .ref (b + t0)), (1, .int a1), (2, .int a2), (3, .int a3), (4, .int a4)] → W p l e { frames := 5, cells := 0, slots := 0, locals := 115 } s m args below meth c H locs 0 0 (cl_Zi below args s dd b r M') (F0 m 17 ls [])) : ∀ (M : cl_M) (t0 : Nat) (a1 : Int32) (a2 : Int32) (a3 : Int32) (a4 : Int32) (r : Int32) (M' : cl_M), f_X6_bestSpot_85 r17 M t0 a1 a2 a3 a4 = some (r, M') → ∀ (H : Heap) (locs : List Loc) (ls : Array Slot), cl_sh dd t0 = 6 → cl_H dd b M s H locs → lv_has ls 6 [(0, .ref (b + t0)), (1, .int a1), (2, .int a2), (3, .int a3), (4, .int a4)] → W p l e { frames := 5, cells := 0, slots := 0, locals := 115 } s m args below meth c H locs 0 0 (cl_Zi below args s dd b r M') (F0 m 85 ls []) := by
  have hx := C.1
  have hb := C.2.1
  have hlt := C.2.2.2.2.2.2.2.2.2.2
  have hRr := C.2.2.2.2.2.2.2.2.2.1
  intro M t0 a1 a2 a3 a4 r M' hf H locs ls ht0 hw hl
  unfold f_X6_bestSpot_85 at hf
  obtain ⟨v17, ev17, hf⟩ := cl_let_e hf
  refine lv_iinc (v := v17) (lv' := [(4, .int v17), (0, .ref (b + t0)), (1, .int a1), (2, .int a2), (3, .int a3)]) hx hb dX6_bestSpot_85 hl (k := 4) rfl (by rw [ev17]; rfl) (by decide) rfl (fun ls hl => ?_)
  refine lv_goto (tgt := 17) hx hb dX6_bestSpot_88 (by decide) ?_
  exact hr17 M t0 a1 a2 a3 v17 _ _ hf _ _ _ ht0 hw (lv_sub hl [1, 2, 3, 4, 0] rfl)
def f_X6_bestSpot_79 (r17 : cl_M → Nat → Int32 → Int32 → Int32 → Int32 → Option (Int32 × cl_M)) (M : cl_M) (t0 : Nat) (a1 : Int32) (a4 : Int32) (a5 : Int32) : Option (Int32 × cl_M) := f_X6_bestSpot_85 r17 M t0 a1 a4 a5 a4
set_option maxHeartbeats 4000000 in
set_option maxRecDepth 100000 in
theorem k_X6_bestSpot_79 {p : Program} {l : Launch} {e : Env} {s : State} {m : MethodId} {args : Array Value} {below : List Frame} {meth : Method} {c : Code} {dd : cl_D} {b : Nat} (C : cl_C p l s m args meth c cX6_bestSpot RX6 6 (some .int) dd b) {r17 : cl_M → Nat → Int32 → Int32 → Int32 → Int32 → Option (Int32 × cl_M)} (hr17 : ∀ (M : cl_M) (t0 : Nat) (a1 : Int32) (a2 : Int32) (a3 : Int32) (a4 : Int32) (r : Int32) (M' : cl_M), r17 M t0 a1 a2 a3 a4 = some (r, M') → ∀ (H : Heap) (locs : List Loc) (ls : Array Slot), cl_sh dd t0 = 6 → cl_H dd b M s H locs → lv_has ls 6 [(0, .ref (b + t0)), (1, .int a1), (2, .int a2), (3, .int a3), (4, .int a4)] → W p l e { frames := 5, cells := 0, slots := 0, locals := 115 } s m args below meth c H locs 0 0 (cl_Zi below args s dd b r M') (F0 m 17 ls [])) : ∀ (M : cl_M) (t0 : Nat) (a1 : Int32) (a4 : Int32) (a5 : Int32) (r : Int32) (M' : cl_M), f_X6_bestSpot_79 r17 M t0 a1 a4 a5 = some (r, M') → ∀ (H : Heap) (locs : List Loc) (ls : Array Slot), cl_sh dd t0 = 6 → cl_H dd b M s H locs → lv_has ls 6 [(0, .ref (b + t0)), (1, .int a1), (4, .int a4), (5, .int a5)] → W p l e { frames := 5, cells := 0, slots := 0, locals := 115 } s m args below meth c H locs 0 0 (cl_Zi below args s dd b r M') (F0 m 79 ls []) := by
  have hx := C.1
  have hb := C.2.1
  have hlt := C.2.2.2.2.2.2.2.2.2.2
  have hRr := C.2.2.2.2.2.2.2.2.2.1
  intro M t0 a1 a4 a5 r M' hf H locs ls ht0 hw hl
  unfold f_X6_bestSpot_79 at hf
  refine lv_iload hx hb dX6_bestSpot_79 (lv_at hl 2 rfl) ?_
  refine lv_istore_n (lv' := [(2, .int a4), (0, .ref (b + t0)), (1, .int a1), (4, .int a4), (5, .int a5)]) hx hb dX6_bestSpot_81 rfl hl (by decide) rfl (fun ls hl => ?_)
  refine lv_iload hx hb dX6_bestSpot_82 (lv_at hl 4 rfl) ?_
  refine lv_istore_n (lv' := [(3, .int a5), (2, .int a4), (0, .ref (b + t0)), (1, .int a1), (4, .int a4), (5, .int a5)]) hx hb dX6_bestSpot_84 rfl hl (by decide) rfl (fun ls hl => ?_)
  exact k_X6_bestSpot_85 C hr17 M t0 a1 a4 a5 a4 _ _ hf _ _ _ ht0 hw (lv_sub hl [2, 3, 1, 0, 4] rfl)
def f_X6_bestSpot_17 : Nat → cl_M → Nat → Int32 → Int32 → Int32 → Int32 → Option (Int32 × cl_M)
  | 0, _, _, _, _, _, _ => none
  | k + 1, M, t0, a1, a2, a3, a4 => if 24 ≤ a4 then f_X6_bestSpot_91 M a2 else (f_X6_isIn M t0 a1 0).bind (fun v6 => if v6 = 0 then f_X6_bestSpot_91 M a2 else (f_X6_reaches M t0 a1 a4).bind (fun v9 => if v9 = 0 then f_X6_bestSpot_91 M a2 else (f_X6_spotsFrom M t0 a1 a4).bind (fun v12 => (f_X6_taken M t0 (-1)).bind (fun v14 => if (v12 &&& v14) = 0 then cl_b2 (f_X6_waterOn M t0 a1 a4) (fun v18 M19 => if a2 = (-1) then f_X6_bestSpot_79 (f_X6_bestSpot_17 k) M19 t0 a1 a4 v18 else if a3 ≤ v18 then f_X6_bestSpot_85 (f_X6_bestSpot_17 k) M19 t0 a1 a2 a3 a4 else f_X6_bestSpot_79 (f_X6_bestSpot_17 k) M19 t0 a1 a4 v18) else f_X6_bestSpot_85 (f_X6_bestSpot_17 k) M t0 a1 a2 a3 a4))))
set_option maxHeartbeats 4000000 in
set_option maxRecDepth 100000 in
theorem k_X6_bestSpot_17 {p : Program} {l : Launch} {e : Env} {s : State} {m : MethodId} {args : Array Value} {below : List Frame} {meth : Method} {c : Code} {dd : cl_D} {b : Nat} (C : cl_C p l s m args meth c cX6_bestSpot RX6 6 (some .int) dd b) : ∀ (k : Nat), ∀ (M : cl_M) (t0 : Nat) (a1 : Int32) (a2 : Int32) (a3 : Int32) (a4 : Int32) (r : Int32) (M' : cl_M), f_X6_bestSpot_17 k M t0 a1 a2 a3 a4 = some (r, M') → ∀ (H : Heap) (locs : List Loc) (ls : Array Slot), cl_sh dd t0 = 6 → cl_H dd b M s H locs → lv_has ls 6 [(0, .ref (b + t0)), (1, .int a1), (2, .int a2), (3, .int a3), (4, .int a4)] → W p l e { frames := 5, cells := 0, slots := 0, locals := 115 } s m args below meth c H locs 0 0 (cl_Zi below args s dd b r M') (F0 m 17 ls []) := by
  have hx := C.1
  have hb := C.2.1
  have hlt := C.2.2.2.2.2.2.2.2.2.2
  have hRr := C.2.2.2.2.2.2.2.2.2.1
  intro k
  induction k with
  | zero =>
    intro M t0 a1 a2 a3 a4 r M' hf H locs ls ht0 hw hl
    rw [f_X6_bestSpot_17] at hf
    cases hf
  | succ k ih =>
    intro M t0 a1 a2 a3 a4 r M' hf H locs ls ht0 hw hl
    rw [f_X6_bestSpot_17] at hf
    refine lv_iload hx hb dX6_bestSpot_17 (lv_at hl 4 rfl) ?_
    refine lv_bipush (v := 24) hx hb dX6_bestSpot_19 (by decide) ?_
    refine lv_icmp_ge (tgt := 91) hx hb dX6_bestSpot_21 (by decide) (fun c5 => ?_) (fun c5 => ?_)
    · have hf := cl_yes c5 hf
      exact k_X6_bestSpot_91 C M a2 _ _ hf _ _ _ hw (lv_sub hl [2] rfl)
    · have hf := cl_no c5 hf
      refine lv_aload_n hx hb dX6_bestSpot_24 rfl (lv_at hl 0 rfl) ?_
      refine lv_iload_n hx hb dX6_bestSpot_25 rfl (lv_at hl 1 rfl) ?_
      refine lv_iconst (v := 0) hx hb dX6_bestSpot_26 (by decide) ?_
      obtain ⟨v6, e7, hf⟩ := cl_bind_e hf
      refine cr_Vi C hw (c_X6_isIn hlt ht0 e7) cy_X6_isIn vy_X6_isIn ml_X6_84 (cl_lt ht0 (by decide)) (cl_e6 ht0) rfl rfl (As := [.int a1, .int 0]) rfl hl.1 rfl ⟨⟨Nat.le_of_ble_eq_true rfl, Nat.le_of_ble_eq_true rfl⟩, Nat.le_of_ble_eq_true rfl, Nat.le_of_ble_eq_true rfl, Nat.le_of_ble_eq_true rfl⟩ dX6_bestSpot_27 (fun H locs hw => ?_)
      refine lv_if_eq (tgt := 91) hx hb dX6_bestSpot_30 (by decide) (fun c8 => ?_) (fun c8 => ?_)
      · have hf := cl_yes c8 hf
        exact k_X6_bestSpot_91 C M a2 _ _ hf _ _ _ hw (lv_sub hl [2] rfl)
      · have hf := cl_no c8 hf
        refine lv_aload_n hx hb dX6_bestSpot_33 rfl (lv_at hl 0 rfl) ?_
        refine lv_iload_n hx hb dX6_bestSpot_34 rfl (lv_at hl 1 rfl) ?_
        refine lv_iload hx hb dX6_bestSpot_35 (lv_at hl 4 rfl) ?_
        obtain ⟨v9, e10, hf⟩ := cl_bind_e hf
        refine cr_Vi C hw (c_X6_reaches hlt ht0 e10) cy_X6_reaches vy_X6_reaches ml_X6_97 (cl_lt ht0 (by decide)) (cl_e6 ht0) rfl rfl (As := [.int a1, .int a4]) rfl hl.1 rfl ⟨⟨Nat.le_of_ble_eq_true rfl, Nat.le_of_ble_eq_true rfl⟩, Nat.le_of_ble_eq_true rfl, Nat.le_of_ble_eq_true rfl, Nat.le_of_ble_eq_true rfl⟩ dX6_bestSpot_37 (fun H locs hw => ?_)
        refine lv_if_eq (tgt := 91) hx hb dX6_bestSpot_40 (by decide) (fun c11 => ?_) (fun c11 => ?_)
        · have hf := cl_yes c11 hf
          exact k_X6_bestSpot_91 C M a2 _ _ hf _ _ _ hw (lv_sub hl [2] rfl)
        · have hf := cl_no c11 hf
          refine lv_aload_n hx hb dX6_bestSpot_43 rfl (lv_at hl 0 rfl) ?_
          refine lv_iload_n hx hb dX6_bestSpot_44 rfl (lv_at hl 1 rfl) ?_
          refine lv_iload hx hb dX6_bestSpot_45 (lv_at hl 4 rfl) ?_
          obtain ⟨v12, e13, hf⟩ := cl_bind_e hf
          refine cr_Vi C hw (c_X6_spotsFrom hlt ht0 e13) cy_X6_spotsFrom vy_X6_spotsFrom ml_X6_88 (cl_lt ht0 (by decide)) (cl_e6 ht0) rfl rfl (As := [.int a1, .int a4]) rfl hl.1 rfl ⟨⟨Nat.le_of_ble_eq_true rfl, Nat.le_of_ble_eq_true rfl⟩, Nat.le_of_ble_eq_true rfl, Nat.le_of_ble_eq_true rfl, Nat.le_of_ble_eq_true rfl⟩ dX6_bestSpot_47 (fun H locs hw => ?_)
          refine lv_aload_n hx hb dX6_bestSpot_50 rfl (lv_at hl 0 rfl) ?_
          refine lv_iconst (v := (-1)) hx hb dX6_bestSpot_51 (by decide) ?_
          obtain ⟨v14, e15, hf⟩ := cl_bind_e hf
          refine cr_Vi C hw (c_X6_taken hlt ht0 e15) cy_X6_taken vy_X6_taken ml_X6_100 (cl_lt ht0 (by decide)) (cl_e6 ht0) rfl rfl (As := [.int (-1)]) rfl hl.1 rfl ⟨⟨Nat.le_of_ble_eq_true rfl, Nat.le_of_ble_eq_true rfl⟩, Nat.le_of_ble_eq_true rfl, Nat.le_of_ble_eq_true rfl, Nat.le_of_ble_eq_true rfl⟩ dX6_bestSpot_52 (fun H locs hw => ?_)
          refine lv_iand hx hb dX6_bestSpot_55 ?_
          refine lv_if_ne (tgt := 85) hx hb dX6_bestSpot_56 (by decide) (fun c16 => ?_) (fun c16 => ?_)
          · have hf := cl_no c16 hf
            exact k_X6_bestSpot_85 C ih M t0 a1 a2 a3 a4 _ _ hf _ _ _ ht0 hw (lv_sub hl [0, 1, 2, 3, 4] rfl)
          · have hf := cl_yes c16 hf
            refine lv_aload_n hx hb dX6_bestSpot_59 rfl (lv_at hl 0 rfl) ?_
            refine lv_iload_n hx hb dX6_bestSpot_60 rfl (lv_at hl 1 rfl) ?_
            refine lv_iload hx hb dX6_bestSpot_61 (lv_at hl 4 rfl) ?_
            obtain ⟨v18, M19, e20, hf⟩ := cl_b2_e hf
            refine cr_Vi C hw (c_X6_waterOn hlt ht0 e20) cy_X6_waterOn vy_X6_waterOn ml_X6_351 (cl_lt ht0 (by decide)) (cl_e6 ht0) rfl rfl (As := [.int a1, .int a4]) rfl hl.1 rfl ⟨⟨Nat.le_of_ble_eq_true rfl, Nat.le_of_ble_eq_true rfl⟩, Nat.le_of_ble_eq_true rfl, Nat.le_of_ble_eq_true rfl, Nat.le_of_ble_eq_true rfl⟩ dX6_bestSpot_63 (fun H locs hw => ?_)
            refine lv_istore (lv' := [(5, .int v18), (0, .ref (b + t0)), (1, .int a1), (2, .int a2), (3, .int a3), (4, .int a4)]) hx hb dX6_bestSpot_66 hl (by decide) rfl (fun ls hl => ?_)
            refine lv_iload_n hx hb dX6_bestSpot_68 rfl (lv_at hl 3 rfl) ?_
            refine lv_iconst (v := (-1)) hx hb dX6_bestSpot_69 (by decide) ?_
            refine lv_icmp_eq (tgt := 79) hx hb dX6_bestSpot_70 (by decide) (fun c21 => ?_) (fun c21 => ?_)
            · have hf := cl_yes c21 hf
              exact k_X6_bestSpot_79 C ih M19 t0 a1 a4 v18 _ _ hf _ _ _ ht0 hw (lv_sub hl [1, 2, 5, 0] rfl)
            · have hf := cl_no c21 hf
              refine lv_iload hx hb dX6_bestSpot_73 (lv_at hl 0 rfl) ?_
              refine lv_iload_n hx hb dX6_bestSpot_75 rfl (lv_at hl 4 rfl) ?_
              refine lv_icmp_ge (tgt := 85) hx hb dX6_bestSpot_76 (by decide) (fun c22 => ?_) (fun c22 => ?_)
              · have hf := cl_yes c22 hf
                exact k_X6_bestSpot_85 C ih M19 t0 a1 a2 a3 a4 _ _ hf _ _ _ ht0 hw (lv_sub hl [1, 2, 3, 4, 5] rfl)
              · have hf := cl_no c22 hf
                exact k_X6_bestSpot_79 C ih M19 t0 a1 a4 v18 _ _ hf _ _ _ ht0 hw (lv_sub hl [1, 2, 5, 0] rfl)
def f_X6_bestSpot (M : cl_M) (t0 : Nat) (a1 : Int32) : Option (Int32 × cl_M) := cl_b2 (f_X6_isGarment M t0 a1) (fun v1 M2 => if v1 = 0 then some (0, M2) else f_X6_bestSpot_17 cl_F M2 t0 a1 (-1) 0 0)
set_option maxHeartbeats 4000000 in
set_option maxRecDepth 100000 in
theorem k_X6_bestSpot {p : Program} {l : Launch} {e : Env} {s : State} {m : MethodId} {args : Array Value} {below : List Frame} {meth : Method} {c : Code} {dd : cl_D} {b : Nat} (C : cl_C p l s m args meth c cX6_bestSpot RX6 6 (some .int) dd b) : ∀ (M : cl_M) (t0 : Nat) (a1 : Int32) (r : Int32) (M' : cl_M), f_X6_bestSpot M t0 a1 = some (r, M') → ∀ (H : Heap) (locs : List Loc) (ls : Array Slot), cl_sh dd t0 = 6 → cl_H dd b M s H locs → lv_has ls 6 [(0, .ref (b + t0)), (1, .int a1)] → W p l e { frames := 5, cells := 0, slots := 0, locals := 115 } s m args below meth c H locs 0 0 (cl_Zi below args s dd b r M') (F0 m 0 ls []) := by
  have hx := C.1
  have hb := C.2.1
  have hlt := C.2.2.2.2.2.2.2.2.2.2
  have hRr := C.2.2.2.2.2.2.2.2.2.1
  intro M t0 a1 r M' hf H locs ls ht0 hw hl
  unfold f_X6_bestSpot at hf
  refine lv_aload_n hx hb dX6_bestSpot_0 rfl (lv_at hl 0 rfl) ?_
  refine lv_iload_n hx hb dX6_bestSpot_1 rfl (lv_at hl 1 rfl) ?_
  obtain ⟨v1, M2, e3, hf⟩ := cl_b2_e hf
  refine cr_Vi C hw (c_X6_isGarment hlt ht0 e3) cy_X6_isGarment vy_X6_isGarment ml_X6_332 (cl_lt ht0 (by decide)) (cl_e6 ht0) rfl rfl (As := [.int a1]) rfl hl.1 rfl ⟨⟨Nat.le_of_ble_eq_true rfl, Nat.le_of_ble_eq_true rfl⟩, Nat.le_of_ble_eq_true rfl, Nat.le_of_ble_eq_true rfl, Nat.le_of_ble_eq_true rfl⟩ dX6_bestSpot_2 (fun H locs hw => ?_)
  refine lv_if_ne (tgt := 10) hx hb dX6_bestSpot_5 (by decide) (fun c4 => ?_) (fun c4 => ?_)
  · have hf := cl_no c4 hf
    refine lv_iconst (v := (-1)) hx hb dX6_bestSpot_10 (by decide) ?_
    refine lv_istore_n (lv' := [(2, .int (-1)), (0, .ref (b + t0)), (1, .int a1)]) hx hb dX6_bestSpot_11 rfl hl (by decide) rfl (fun ls hl => ?_)
    refine lv_iconst (v := 0) hx hb dX6_bestSpot_12 (by decide) ?_
    refine lv_istore_n (lv' := [(3, .int 0), (2, .int (-1)), (0, .ref (b + t0)), (1, .int a1)]) hx hb dX6_bestSpot_13 rfl hl (by decide) rfl (fun ls hl => ?_)
    refine lv_iconst (v := 0) hx hb dX6_bestSpot_14 (by decide) ?_
    refine lv_istore (lv' := [(4, .int 0), (3, .int 0), (2, .int (-1)), (0, .ref (b + t0)), (1, .int a1)]) hx hb dX6_bestSpot_15 hl (by decide) rfl (fun ls hl => ?_)
    exact k_X6_bestSpot_17 C cl_F M2 t0 a1 (-1) 0 0 _ _ hf _ _ _ ht0 hw (lv_sub hl [3, 4, 2, 1, 0] rfl)
  · have hf := cl_yes c4 hf
    refine lv_iconst (v := 0) hx hb dX6_bestSpot_8 (by decide) ?_
    obtain ⟨rfl, rfl⟩ := cl_pair hf
    exact cr_reti C hw dX6_bestSpot_9
set_option maxRecDepth 100000 in
theorem c_X6_bestSpot {l : Launch} {dd : cl_D} {b : Nat} (hlt : l.stackTraces = false) {M : cl_M} {t0 : Nat} {a1 : Int32}  {r : Int32} {M' : cl_M} (ht0 : cl_sh dd t0 = 6) (h : f_X6_bestSpot M t0 a1 = some (r, M')) : cl_Mi l dd b yX6_bestSpot cX6_bestSpot 6 (some .int) 5 115 [.ref (b + t0), .int a1] M r M' :=
  cl_of hlt (by decide) (Nat.le_of_ble_eq_true rfl) (fun p e s m below meth c ls C hw hl => k_X6_bestSpot C M t0 a1 r M' h _ _ _ ht0 hw (lv_sub hl [0, 1] rfl))
theorem cy_X6_bestSpot : cl_cy yX6_bestSpot cX6_bestSpot 6 (some .int) 1 := ⟨in_ClothesLineModel, cd_X6_bestSpot, by decide +kernel, by decide +kernel, by decide +kernel⟩
theorem vy_X6_bestSpot : cl_vy yX6_bestSpot := ⟨im_X6_bestSpot, se_X6_bestSpot⟩
def f_X6_record_2 : Nat → cl_M → Nat → Int32 → Option (cl_M)
  | 0, _, _, _ => none
  | k + 1, M, t0, a1 => if 149 ≤ a1 then (f_X6_pushAside M t0).bind (fun M2 => some M2) else if cl_inb a1 149 = true then if cl_inb a1 149 = true then cl_let (cl_ms M (t0 + 3) (a1).toNatClampNeg (M (t0 + 2) (a1.toNatClampNeg))) (fun M6 => cl_let (a1 + 1) (fun v7 => f_X6_record_2 k M6 t0 v7)) else none else none
set_option maxHeartbeats 4000000 in
set_option maxRecDepth 100000 in
theorem k_X6_record_2 {p : Program} {l : Launch} {e : Env} {s : State} {m : MethodId} {args : Array Value} {below : List Frame} {meth : Method} {c : Code} {dd : cl_D} {b : Nat} (C : cl_C p l s m args meth c cX6_record RX6 2 none dd b) : ∀ (k : Nat), ∀ (M : cl_M) (t0 : Nat) (a1 : Int32) (M' : cl_M), f_X6_record_2 k M t0 a1 = some M' → ∀ (H : Heap) (locs : List Loc) (ls : Array Slot), cl_sh dd t0 = 6 → cl_H dd b M s H locs → lv_has ls 2 [(0, .ref (b + t0)), (1, .int a1)] → W p l e { frames := 1, cells := 0, slots := 0, locals := 21 } s m args below meth c H locs 0 0 (cl_Zv below args s dd b M') (F0 m 2 ls []) := by
  have hx := C.1
  have hb := C.2.1
  have hlt := C.2.2.2.2.2.2.2.2.2.2
  have hRr := C.2.2.2.2.2.2.2.2.2.1
  intro k
  induction k with
  | zero =>
    intro M t0 a1 M' hf H locs ls ht0 hw hl
    rw [f_X6_record_2] at hf
    cases hf
  | succ k ih =>
    intro M t0 a1 M' hf H locs ls ht0 hw hl
    rw [f_X6_record_2] at hf
    refine lv_iload_n hx hb dX6_record_2 rfl (lv_at hl 1 rfl) ?_
    refine lv_sipush (v := 149) hx hb dX6_record_3 (by decide) ?_
    refine lv_icmp_ge (tgt := 27) hx hb dX6_record_6 (by decide) (fun c1 => ?_) (fun c1 => ?_)
    · have hf := cl_yes c1 hf
      refine lv_aload_n hx hb dX6_record_27 rfl (lv_at hl 0 rfl) ?_
      obtain ⟨M2, e3, hf⟩ := cl_bind_e hf
      refine cr_Vv C hw (c_X6_pushAside hlt ht0 e3) cy_X6_pushAside vy_X6_pushAside ml_X6_307 (cl_lt ht0 (by decide)) (cl_e6 ht0) rfl rfl (As := []) rfl hl.1 rfl ⟨⟨Nat.le_of_ble_eq_true rfl, Nat.le_of_ble_eq_true rfl⟩, Nat.le_of_ble_eq_true rfl, Nat.le_of_ble_eq_true rfl, Nat.le_of_ble_eq_true rfl⟩ dX6_record_28 (fun H locs hw => ?_)
      obtain rfl := Option.some.inj hf
      exact cr_retv C hw dX6_record_31
    · have hf := cl_no c1 hf
      refine lv_aload_n hx hb dX6_record_9 rfl (lv_at hl 0 rfl) ?_
      refine fg_X6_20 C hw ht0 dX6_record_10 ?_
      refine lv_iload_n hx hb dX6_record_13 rfl (lv_at hl 1 rfl) ?_
      refine lv_aload_n hx hb dX6_record_14 rfl (lv_at hl 0 rfl) ?_
      refine fg_X6_17 C hw ht0 dX6_record_15 ?_
      refine lv_iload_n hx hb dX6_record_18 rfl (lv_at hl 1 rfl) ?_
      obtain ⟨q4, hf⟩ := cl_grd hf
      refine cr_iald C hw (sh_6_5 ht0).1 (sh_6_5 ht0).2 q4 (k := a1.toNatClampNeg) rfl dX6_record_19 ?_
      obtain ⟨q5, hf⟩ := cl_grd hf
      obtain ⟨M6, eM6, hf⟩ := cl_let_e hf
      refine cr_iast C hw (sh_6_6 ht0).1 (sh_6_6 ht0).2 q5 (k := (a1).toNatClampNeg) rfl eM6 dX6_record_20 (fun H locs hw => ?_)
      obtain ⟨v7, ev7, hf⟩ := cl_let_e hf
      refine lv_iinc (v := v7) (lv' := [(1, .int v7), (0, .ref (b + t0))]) hx hb dX6_record_21 hl (k := 1) rfl (by rw [ev7]; rfl) (by decide) rfl (fun ls hl => ?_)
      refine lv_goto (tgt := 2) hx hb dX6_record_24 (by decide) ?_
      exact ih M6 t0 v7 _ hf _ _ _ ht0 hw (lv_sub hl [1, 0] rfl)
def f_X6_record (M : cl_M) (t0 : Nat) : Option (cl_M) := f_X6_record_2 cl_F M t0 0
set_option maxHeartbeats 4000000 in
set_option maxRecDepth 100000 in
theorem k_X6_record {p : Program} {l : Launch} {e : Env} {s : State} {m : MethodId} {args : Array Value} {below : List Frame} {meth : Method} {c : Code} {dd : cl_D} {b : Nat} (C : cl_C p l s m args meth c cX6_record RX6 2 none dd b) : ∀ (M : cl_M) (t0 : Nat) (M' : cl_M), f_X6_record M t0 = some M' → ∀ (H : Heap) (locs : List Loc) (ls : Array Slot), cl_sh dd t0 = 6 → cl_H dd b M s H locs → lv_has ls 2 [(0, .ref (b + t0))] → W p l e { frames := 1, cells := 0, slots := 0, locals := 21 } s m args below meth c H locs 0 0 (cl_Zv below args s dd b M') (F0 m 0 ls []) := by
  have hx := C.1
  have hb := C.2.1
  have hlt := C.2.2.2.2.2.2.2.2.2.2
  have hRr := C.2.2.2.2.2.2.2.2.2.1
  intro M t0 M' hf H locs ls ht0 hw hl
  unfold f_X6_record at hf
  refine lv_iconst (v := 0) hx hb dX6_record_0 (by decide) ?_
  refine lv_istore_n (lv' := [(1, .int 0), (0, .ref (b + t0))]) hx hb dX6_record_1 rfl hl (by decide) rfl (fun ls hl => ?_)
  exact k_X6_record_2 C cl_F M t0 0 _ hf _ _ _ ht0 hw (lv_sub hl [1, 0] rfl)
set_option maxRecDepth 100000 in
theorem c_X6_record {l : Launch} {dd : cl_D} {b : Nat} (hlt : l.stackTraces = false) {M : cl_M} {t0 : Nat}  {M' : cl_M} (ht0 : cl_sh dd t0 = 6) (h : f_X6_record M t0 = some M') : cl_Mv l dd b yX6_record cX6_record 2 none 1 21 [.ref (b + t0)] M M' :=
  cl_of hlt (by decide) (Nat.le_of_ble_eq_true rfl) (fun p e s m below meth c ls C hw hl => k_X6_record C M t0 M' h _ _ _ ht0 hw (lv_sub hl [0] rfl))
theorem cy_X6_record : cl_cy yX6_record cX6_record 2 none 0 := ⟨in_ClothesLineModel, cd_X6_record, by decide +kernel, by decide +kernel, by decide +kernel⟩
theorem vy_X6_record : cl_vy yX6_record := ⟨im_X6_record, se_X6_record⟩
def f_X6_addGarment_81 (M : cl_M) (t0 : Nat) (a1 : Int32) (a2 : Int32) (a3 : Int32) (a4 : Int32) (z0 : Int32) (w1 : Nat) : Option (Int32 × cl_M) := cl_b2 (f_X6_fails M w1 z0 2) (fun v10 M11 => if v10 = 0 then (f_X6_record M11 t0).bind (fun M14 => cl_b2 (f_X6_doGarment M14 t0 a1 a2 a3 a4) (fun v16 M17 => some (v16, M17))) else some (0, M11))
set_option maxHeartbeats 4000000 in
set_option maxRecDepth 100000 in
theorem k_X6_addGarment_81 {p : Program} {l : Launch} {e : Env} {s : State} {m : MethodId} {args : Array Value} {below : List Frame} {meth : Method} {c : Code} {dd : cl_D} {b : Nat} (C : cl_C p l s m args meth c cX6_addGarment RX6 6 (some .int) dd b) : ∀ (M : cl_M) (t0 : Nat) (a1 : Int32) (a2 : Int32) (a3 : Int32) (a4 : Int32) (z0 : Int32) (w1 : Nat) (r : Int32) (M' : cl_M), f_X6_addGarment_81 M t0 a1 a2 a3 a4 z0 w1 = some (r, M') → ∀ (H : Heap) (locs : List Loc) (ls : Array Slot), cl_sh dd t0 = 6 → cl_sh dd w1 = 6 → cl_H dd b M s H locs → lv_has ls 6 [(0, .ref (b + t0)), (1, .int a1), (2, .int a2), (3, .int a3), (4, .int a4)] → W p l e { frames := 3, cells := 0, slots := 0, locals := 71 } s m args below meth c H locs 0 0 (cl_Zi below args s dd b r M') (F0 m 81 ls [.int z0, .ref (b + w1)]) := by
  have hx := C.1
  have hb := C.2.1
  have hlt := C.2.2.2.2.2.2.2.2.2.2
  have hRr := C.2.2.2.2.2.2.2.2.2.1
  intro M t0 a1 a2 a3 a4 z0 w1 r M' hf H locs ls ht0 hw1 hw hl
  unfold f_X6_addGarment_81 at hf
  refine lv_iconst (v := 2) hx hb dX6_addGarment_81 (by decide) ?_
  obtain ⟨v10, M11, e12, hf⟩ := cl_b2_e hf
  refine cr_Vi C hw (c_X6_fails hlt hw1 e12) cy_X6_fails vy_X6_fails ml_X6_313 (cl_lt hw1 (by decide)) (cl_e6 hw1) rfl rfl (As := [.int z0, .int 2]) rfl hl.1 rfl ⟨⟨Nat.le_of_ble_eq_true rfl, Nat.le_of_ble_eq_true rfl⟩, Nat.le_of_ble_eq_true rfl, Nat.le_of_ble_eq_true rfl, Nat.le_of_ble_eq_true rfl⟩ dX6_addGarment_82 (fun H locs hw => ?_)
  refine lv_if_eq (tgt := 90) hx hb dX6_addGarment_85 (by decide) (fun c13 => ?_) (fun c13 => ?_)
  · have hf := cl_yes c13 hf
    refine lv_aload_n hx hb dX6_addGarment_90 rfl (lv_at hl 0 rfl) ?_
    obtain ⟨M14, e15, hf⟩ := cl_bind_e hf
    refine cr_Vv C hw (c_X6_record hlt ht0 e15) cy_X6_record vy_X6_record ml_X6_354 (cl_lt ht0 (by decide)) (cl_e6 ht0) rfl rfl (As := []) rfl hl.1 rfl ⟨⟨Nat.le_of_ble_eq_true rfl, Nat.le_of_ble_eq_true rfl⟩, Nat.le_of_ble_eq_true rfl, Nat.le_of_ble_eq_true rfl, Nat.le_of_ble_eq_true rfl⟩ dX6_addGarment_91 (fun H locs hw => ?_)
    refine lv_aload_n hx hb dX6_addGarment_94 rfl (lv_at hl 0 rfl) ?_
    refine lv_iload_n hx hb dX6_addGarment_95 rfl (lv_at hl 1 rfl) ?_
    refine lv_iload_n hx hb dX6_addGarment_96 rfl (lv_at hl 2 rfl) ?_
    refine lv_iload_n hx hb dX6_addGarment_97 rfl (lv_at hl 3 rfl) ?_
    refine lv_iload hx hb dX6_addGarment_98 (lv_at hl 4 rfl) ?_
    obtain ⟨v16, M17, e18, hf⟩ := cl_b2_e hf
    refine cr_Vi C hw (c_X6_doGarment hlt ht0 e18) cy_X6_doGarment vy_X6_doGarment ml_X6_252 (cl_lt ht0 (by decide)) (cl_e6 ht0) rfl rfl (As := [.int a1, .int a2, .int a3, .int a4]) rfl hl.1 rfl ⟨⟨Nat.le_of_ble_eq_true rfl, Nat.le_of_ble_eq_true rfl⟩, Nat.le_of_ble_eq_true rfl, Nat.le_of_ble_eq_true rfl, Nat.le_of_ble_eq_true rfl⟩ dX6_addGarment_100 (fun H locs hw => ?_)
    obtain ⟨rfl, rfl⟩ := cl_pair hf
    exact cr_reti C hw dX6_addGarment_103
  · have hf := cl_no c13 hf
    refine lv_iconst (v := 0) hx hb dX6_addGarment_88 (by decide) ?_
    obtain ⟨rfl, rfl⟩ := cl_pair hf
    exact cr_reti C hw dX6_addGarment_89
def f_X6_addGarment_51 (M : cl_M) (t0 : Nat) (a1 : Int32) (a2 : Int32) (a3 : Int32) (a4 : Int32) (z0 : Int32) : Option (Int32 × cl_M) := cl_b2 (f_X6_fails M t0 z0 1) (fun v5 M6 => if v5 = 0 then if 10 ≤ (M6 (t0 + 2) 7) then f_X6_addGarment_81 M6 t0 a1 a2 a3 a4 0 t0 else f_X6_addGarment_81 M6 t0 a1 a2 a3 a4 1 t0 else some (0, M6))
set_option maxHeartbeats 4000000 in
set_option maxRecDepth 100000 in
theorem k_X6_addGarment_51 {p : Program} {l : Launch} {e : Env} {s : State} {m : MethodId} {args : Array Value} {below : List Frame} {meth : Method} {c : Code} {dd : cl_D} {b : Nat} (C : cl_C p l s m args meth c cX6_addGarment RX6 6 (some .int) dd b) : ∀ (M : cl_M) (t0 : Nat) (a1 : Int32) (a2 : Int32) (a3 : Int32) (a4 : Int32) (z0 : Int32) (r : Int32) (M' : cl_M), f_X6_addGarment_51 M t0 a1 a2 a3 a4 z0 = some (r, M') → ∀ (H : Heap) (locs : List Loc) (ls : Array Slot), cl_sh dd t0 = 6 → cl_H dd b M s H locs → lv_has ls 6 [(0, .ref (b + t0)), (1, .int a1), (2, .int a2), (3, .int a3), (4, .int a4)] → W p l e { frames := 3, cells := 0, slots := 0, locals := 71 } s m args below meth c H locs 0 0 (cl_Zi below args s dd b r M') (F0 m 51 ls [.int z0]) := by
  have hx := C.1
  have hb := C.2.1
  have hlt := C.2.2.2.2.2.2.2.2.2.2
  have hRr := C.2.2.2.2.2.2.2.2.2.1
  intro M t0 a1 a2 a3 a4 z0 r M' hf H locs ls ht0 hw hl
  unfold f_X6_addGarment_51 at hf
  refine lv_istore (lv' := [(5, .int z0), (0, .ref (b + t0)), (1, .int a1), (2, .int a2), (3, .int a3), (4, .int a4)]) hx hb dX6_addGarment_51 hl (by decide) rfl (fun ls hl => ?_)
  refine lv_aload_n hx hb dX6_addGarment_53 rfl (lv_at hl 1 rfl) ?_
  refine lv_iload hx hb dX6_addGarment_54 (lv_at hl 0 rfl) ?_
  refine lv_iconst (v := 1) hx hb dX6_addGarment_56 (by decide) ?_
  obtain ⟨v5, M6, e7, hf⟩ := cl_b2_e hf
  refine cr_Vi C hw (c_X6_fails hlt ht0 e7) cy_X6_fails vy_X6_fails ml_X6_313 (cl_lt ht0 (by decide)) (cl_e6 ht0) rfl rfl (As := [.int z0, .int 1]) rfl hl.1 rfl ⟨⟨Nat.le_of_ble_eq_true rfl, Nat.le_of_ble_eq_true rfl⟩, Nat.le_of_ble_eq_true rfl, Nat.le_of_ble_eq_true rfl, Nat.le_of_ble_eq_true rfl⟩ dX6_addGarment_57 (fun H locs hw => ?_)
  refine lv_if_ne (tgt := 88) hx hb dX6_addGarment_60 (by decide) (fun c8 => ?_) (fun c8 => ?_)
  · have hf := cl_no c8 hf
    refine lv_iconst (v := 0) hx hb dX6_addGarment_88 (by decide) ?_
    obtain ⟨rfl, rfl⟩ := cl_pair hf
    exact cr_reti C hw dX6_addGarment_89
  · have hf := cl_yes c8 hf
    refine lv_aload_n hx hb dX6_addGarment_63 rfl (lv_at hl 1 rfl) ?_
    refine lv_aload_n hx hb dX6_addGarment_64 rfl (lv_at hl 1 rfl) ?_
    refine fg_X6_17 C hw ht0 dX6_addGarment_65 ?_
    refine lv_bipush (v := 7) hx hb dX6_addGarment_68 (by decide) ?_
    refine cr_iald C hw (sh_6_5 ht0).1 (sh_6_5 ht0).2 (by decide) (k := 7) rfl dX6_addGarment_70 ?_
    refine lv_bipush (v := 10) hx hb dX6_addGarment_71 (by decide) ?_
    refine lv_icmp_ge (tgt := 80) hx hb dX6_addGarment_73 (by decide) (fun c9 => ?_) (fun c9 => ?_)
    · have hf := cl_yes c9 hf
      refine lv_iconst (v := 0) hx hb dX6_addGarment_80 (by decide) ?_
      exact k_X6_addGarment_81 C M6 t0 a1 a2 a3 a4 0 t0 _ _ hf _ _ _ ht0 ht0 hw (lv_sub hl [1, 2, 3, 4, 5] rfl)
    · have hf := cl_no c9 hf
      refine lv_iconst (v := 1) hx hb dX6_addGarment_76 (by decide) ?_
      refine lv_goto (tgt := 81) hx hb dX6_addGarment_77 (by decide) ?_
      exact k_X6_addGarment_81 C M6 t0 a1 a2 a3 a4 1 t0 _ _ hf _ _ _ ht0 ht0 hw (lv_sub hl [1, 2, 3, 4, 5] rfl)
def f_X6_addGarment_50 (M : cl_M) (t0 : Nat) (a1 : Int32) (a2 : Int32) (a3 : Int32) (a4 : Int32) : Option (Int32 × cl_M) := f_X6_addGarment_51 M t0 a1 a2 a3 a4 0
set_option maxHeartbeats 4000000 in
set_option maxRecDepth 100000 in
theorem k_X6_addGarment_50 {p : Program} {l : Launch} {e : Env} {s : State} {m : MethodId} {args : Array Value} {below : List Frame} {meth : Method} {c : Code} {dd : cl_D} {b : Nat} (C : cl_C p l s m args meth c cX6_addGarment RX6 6 (some .int) dd b) : ∀ (M : cl_M) (t0 : Nat) (a1 : Int32) (a2 : Int32) (a3 : Int32) (a4 : Int32) (r : Int32) (M' : cl_M), f_X6_addGarment_50 M t0 a1 a2 a3 a4 = some (r, M') → ∀ (H : Heap) (locs : List Loc) (ls : Array Slot), cl_sh dd t0 = 6 → cl_H dd b M s H locs → lv_has ls 6 [(0, .ref (b + t0)), (1, .int a1), (2, .int a2), (3, .int a3), (4, .int a4)] → W p l e { frames := 3, cells := 0, slots := 0, locals := 71 } s m args below meth c H locs 0 0 (cl_Zi below args s dd b r M') (F0 m 50 ls []) := by
  have hx := C.1
  have hb := C.2.1
  have hlt := C.2.2.2.2.2.2.2.2.2.2
  have hRr := C.2.2.2.2.2.2.2.2.2.1
  intro M t0 a1 a2 a3 a4 r M' hf H locs ls ht0 hw hl
  unfold f_X6_addGarment_50 at hf
  refine lv_iconst (v := 0) hx hb dX6_addGarment_50 (by decide) ?_
  exact k_X6_addGarment_51 C M t0 a1 a2 a3 a4 0 _ _ hf _ _ _ ht0 hw (lv_sub hl [0, 1, 2, 3, 4] rfl)
def f_X6_addGarment (M : cl_M) (t0 : Nat) (a1 : Int32) (a2 : Int32) (a3 : Int32) (a4 : Int32) : Option (Int32 × cl_M) := cl_let (cl_ms M t0 4 0) (fun M1 => (f_X6_inRange M1 a1 1 6).bind (fun v2 => if v2 = 0 then f_X6_addGarment_50 M1 t0 a1 a2 a3 a4 else (f_X6_inRange M1 a2 1 99).bind (fun v19 => if v19 = 0 then f_X6_addGarment_50 M1 t0 a1 a2 a3 a4 else (f_X6_inRange M1 a3 1 999).bind (fun v22 => if v22 = 0 then f_X6_addGarment_50 M1 t0 a1 a2 a3 a4 else (f_X6_inRange M1 a4 0 a3).bind (fun v25 => if v25 = 0 then f_X6_addGarment_50 M1 t0 a1 a2 a3 a4 else f_X6_addGarment_51 M1 t0 a1 a2 a3 a4 1)))))
set_option maxHeartbeats 4000000 in
set_option maxRecDepth 100000 in
theorem k_X6_addGarment {p : Program} {l : Launch} {e : Env} {s : State} {m : MethodId} {args : Array Value} {below : List Frame} {meth : Method} {c : Code} {dd : cl_D} {b : Nat} (C : cl_C p l s m args meth c cX6_addGarment RX6 6 (some .int) dd b) : ∀ (M : cl_M) (t0 : Nat) (a1 : Int32) (a2 : Int32) (a3 : Int32) (a4 : Int32) (r : Int32) (M' : cl_M), f_X6_addGarment M t0 a1 a2 a3 a4 = some (r, M') → ∀ (H : Heap) (locs : List Loc) (ls : Array Slot), cl_sh dd t0 = 6 → cl_H dd b M s H locs → lv_has ls 6 [(0, .ref (b + t0)), (1, .int a1), (2, .int a2), (3, .int a3), (4, .int a4)] → W p l e { frames := 3, cells := 0, slots := 0, locals := 71 } s m args below meth c H locs 0 0 (cl_Zi below args s dd b r M') (F0 m 0 ls []) := by
  have hx := C.1
  have hb := C.2.1
  have hlt := C.2.2.2.2.2.2.2.2.2.2
  have hRr := C.2.2.2.2.2.2.2.2.2.1
  intro M t0 a1 a2 a3 a4 r M' hf H locs ls ht0 hw hl
  unfold f_X6_addGarment at hf
  refine lv_aload_n hx hb dX6_addGarment_0 rfl (lv_at hl 0 rfl) ?_
  refine lv_iconst (v := 0) hx hb dX6_addGarment_1 (by decide) ?_
  obtain ⟨M1, eM1, hf⟩ := cl_let_e hf
  refine fp_X6_60 C hw ht0 eM1 dX6_addGarment_2 (fun H locs hw => ?_)
  refine lv_iload_n hx hb dX6_addGarment_5 rfl (lv_at hl 1 rfl) ?_
  refine lv_iconst (v := 1) hx hb dX6_addGarment_6 (by decide) ?_
  refine lv_bipush (v := 6) hx hb dX6_addGarment_7 (by decide) ?_
  obtain ⟨v2, e3, hf⟩ := cl_bind_e hf
  refine cr_Si C hw (c_X6_inRange hlt e3) cy_X6_inRange st_X6_inRange ml_X6_63 (As := [.int a1, .int 1, .int 6]) rfl hl.1 rfl ⟨⟨Nat.le_of_ble_eq_true rfl, Nat.le_of_ble_eq_true rfl⟩, Nat.le_of_ble_eq_true rfl, Nat.le_of_ble_eq_true rfl, Nat.le_of_ble_eq_true rfl⟩ dX6_addGarment_9 (fun H locs hw => ?_)
  refine lv_if_eq (tgt := 50) hx hb dX6_addGarment_12 (by decide) (fun c4 => ?_) (fun c4 => ?_)
  · have hf := cl_yes c4 hf
    exact k_X6_addGarment_50 C M1 t0 a1 a2 a3 a4 _ _ hf _ _ _ ht0 hw (lv_sub hl [0, 1, 2, 3, 4] rfl)
  · have hf := cl_no c4 hf
    refine lv_iload_n hx hb dX6_addGarment_15 rfl (lv_at hl 2 rfl) ?_
    refine lv_iconst (v := 1) hx hb dX6_addGarment_16 (by decide) ?_
    refine lv_bipush (v := 99) hx hb dX6_addGarment_17 (by decide) ?_
    obtain ⟨v19, e20, hf⟩ := cl_bind_e hf
    refine cr_Si C hw (c_X6_inRange hlt e20) cy_X6_inRange st_X6_inRange ml_X6_63 (As := [.int a2, .int 1, .int 99]) rfl hl.1 rfl ⟨⟨Nat.le_of_ble_eq_true rfl, Nat.le_of_ble_eq_true rfl⟩, Nat.le_of_ble_eq_true rfl, Nat.le_of_ble_eq_true rfl, Nat.le_of_ble_eq_true rfl⟩ dX6_addGarment_19 (fun H locs hw => ?_)
    refine lv_if_eq (tgt := 50) hx hb dX6_addGarment_22 (by decide) (fun c21 => ?_) (fun c21 => ?_)
    · have hf := cl_yes c21 hf
      exact k_X6_addGarment_50 C M1 t0 a1 a2 a3 a4 _ _ hf _ _ _ ht0 hw (lv_sub hl [0, 1, 2, 3, 4] rfl)
    · have hf := cl_no c21 hf
      refine lv_iload_n hx hb dX6_addGarment_25 rfl (lv_at hl 3 rfl) ?_
      refine lv_iconst (v := 1) hx hb dX6_addGarment_26 (by decide) ?_
      refine lv_sipush (v := 999) hx hb dX6_addGarment_27 (by decide) ?_
      obtain ⟨v22, e23, hf⟩ := cl_bind_e hf
      refine cr_Si C hw (c_X6_inRange hlt e23) cy_X6_inRange st_X6_inRange ml_X6_63 (As := [.int a3, .int 1, .int 999]) rfl hl.1 rfl ⟨⟨Nat.le_of_ble_eq_true rfl, Nat.le_of_ble_eq_true rfl⟩, Nat.le_of_ble_eq_true rfl, Nat.le_of_ble_eq_true rfl, Nat.le_of_ble_eq_true rfl⟩ dX6_addGarment_30 (fun H locs hw => ?_)
      refine lv_if_eq (tgt := 50) hx hb dX6_addGarment_33 (by decide) (fun c24 => ?_) (fun c24 => ?_)
      · have hf := cl_yes c24 hf
        exact k_X6_addGarment_50 C M1 t0 a1 a2 a3 a4 _ _ hf _ _ _ ht0 hw (lv_sub hl [0, 1, 2, 3, 4] rfl)
      · have hf := cl_no c24 hf
        refine lv_iload hx hb dX6_addGarment_36 (lv_at hl 4 rfl) ?_
        refine lv_iconst (v := 0) hx hb dX6_addGarment_38 (by decide) ?_
        refine lv_iload_n hx hb dX6_addGarment_39 rfl (lv_at hl 3 rfl) ?_
        obtain ⟨v25, e26, hf⟩ := cl_bind_e hf
        refine cr_Si C hw (c_X6_inRange hlt e26) cy_X6_inRange st_X6_inRange ml_X6_63 (As := [.int a4, .int 0, .int a3]) rfl hl.1 rfl ⟨⟨Nat.le_of_ble_eq_true rfl, Nat.le_of_ble_eq_true rfl⟩, Nat.le_of_ble_eq_true rfl, Nat.le_of_ble_eq_true rfl, Nat.le_of_ble_eq_true rfl⟩ dX6_addGarment_40 (fun H locs hw => ?_)
        refine lv_if_eq (tgt := 50) hx hb dX6_addGarment_43 (by decide) (fun c27 => ?_) (fun c27 => ?_)
        · have hf := cl_yes c27 hf
          exact k_X6_addGarment_50 C M1 t0 a1 a2 a3 a4 _ _ hf _ _ _ ht0 hw (lv_sub hl [0, 1, 2, 3, 4] rfl)
        · have hf := cl_no c27 hf
          refine lv_iconst (v := 1) hx hb dX6_addGarment_46 (by decide) ?_
          refine lv_goto (tgt := 51) hx hb dX6_addGarment_47 (by decide) ?_
          exact k_X6_addGarment_51 C M1 t0 a1 a2 a3 a4 1 _ _ hf _ _ _ ht0 hw (lv_sub hl [0, 1, 2, 3, 4] rfl)
set_option maxRecDepth 100000 in
theorem c_X6_addGarment {l : Launch} {dd : cl_D} {b : Nat} (hlt : l.stackTraces = false) {M : cl_M} {t0 : Nat} {a1 : Int32} {a2 : Int32} {a3 : Int32} {a4 : Int32}  {r : Int32} {M' : cl_M} (ht0 : cl_sh dd t0 = 6) (h : f_X6_addGarment M t0 a1 a2 a3 a4 = some (r, M')) : cl_Mi l dd b yX6_addGarment cX6_addGarment 6 (some .int) 3 71 [.ref (b + t0), .int a1, .int a2, .int a3, .int a4] M r M' :=
  cl_of hlt (by decide) (Nat.le_of_ble_eq_true rfl) (fun p e s m below meth c ls C hw hl => k_X6_addGarment C M t0 a1 a2 a3 a4 r M' h _ _ _ ht0 hw (lv_sub hl [0, 1, 2, 3, 4] rfl))
theorem cy_X6_addGarment : cl_cy yX6_addGarment cX6_addGarment 6 (some .int) 4 := ⟨in_ClothesLineModel, cd_X6_addGarment, by decide +kernel, by decide +kernel, by decide +kernel⟩
theorem vy_X6_addGarment : cl_vy yX6_addGarment := ⟨im_X6_addGarment, se_X6_addGarment⟩
def f_X6_hang_30 (M : cl_M) (t0 : Nat) (a1 : Int32) (a2 : Int32) (a3 : Int32) (a4 : Int32) (z0 : Int32) (w1 : Nat) : Option (Int32 × cl_M) := cl_b2 (f_X6_fails M w1 z0 3) (fun v8 M9 => if v8 = 0 then (f_X6_record M9 t0).bind (fun M12 => cl_b2 (f_X6_doHang M12 t0 a1 a2 a3 a4) (fun v14 M15 => some (v14, M15))) else some (0, M9))
set_option maxHeartbeats 4000000 in
set_option maxRecDepth 100000 in
theorem k_X6_hang_30 {p : Program} {l : Launch} {e : Env} {s : State} {m : MethodId} {args : Array Value} {below : List Frame} {meth : Method} {c : Code} {dd : cl_D} {b : Nat} (C : cl_C p l s m args meth c cX6_hang RX6 5 (some .int) dd b) : ∀ (M : cl_M) (t0 : Nat) (a1 : Int32) (a2 : Int32) (a3 : Int32) (a4 : Int32) (z0 : Int32) (w1 : Nat) (r : Int32) (M' : cl_M), f_X6_hang_30 M t0 a1 a2 a3 a4 z0 w1 = some (r, M') → ∀ (H : Heap) (locs : List Loc) (ls : Array Slot), cl_sh dd t0 = 6 → cl_sh dd w1 = 6 → cl_H dd b M s H locs → lv_has ls 5 [(0, .ref (b + t0)), (1, .int a1), (2, .int a2), (3, .int a3), (4, .int a4)] → W p l e { frames := 5, cells := 0, slots := 0, locals := 112 } s m args below meth c H locs 0 0 (cl_Zi below args s dd b r M') (F0 m 30 ls [.int z0, .ref (b + w1)]) := by
  have hx := C.1
  have hb := C.2.1
  have hlt := C.2.2.2.2.2.2.2.2.2.2
  have hRr := C.2.2.2.2.2.2.2.2.2.1
  intro M t0 a1 a2 a3 a4 z0 w1 r M' hf H locs ls ht0 hw1 hw hl
  unfold f_X6_hang_30 at hf
  refine lv_iconst (v := 3) hx hb dX6_hang_30 (by decide) ?_
  obtain ⟨v8, M9, e10, hf⟩ := cl_b2_e hf
  refine cr_Vi C hw (c_X6_fails hlt hw1 e10) cy_X6_fails vy_X6_fails ml_X6_313 (cl_lt hw1 (by decide)) (cl_e6 hw1) rfl rfl (As := [.int z0, .int 3]) rfl hl.1 rfl ⟨⟨Nat.le_of_ble_eq_true rfl, Nat.le_of_ble_eq_true rfl⟩, Nat.le_of_ble_eq_true rfl, Nat.le_of_ble_eq_true rfl, Nat.le_of_ble_eq_true rfl⟩ dX6_hang_31 (fun H locs hw => ?_)
  refine lv_if_eq (tgt := 39) hx hb dX6_hang_34 (by decide) (fun c11 => ?_) (fun c11 => ?_)
  · have hf := cl_yes c11 hf
    refine lv_aload_n hx hb dX6_hang_39 rfl (lv_at hl 0 rfl) ?_
    obtain ⟨M12, e13, hf⟩ := cl_bind_e hf
    refine cr_Vv C hw (c_X6_record hlt ht0 e13) cy_X6_record vy_X6_record ml_X6_354 (cl_lt ht0 (by decide)) (cl_e6 ht0) rfl rfl (As := []) rfl hl.1 rfl ⟨⟨Nat.le_of_ble_eq_true rfl, Nat.le_of_ble_eq_true rfl⟩, Nat.le_of_ble_eq_true rfl, Nat.le_of_ble_eq_true rfl, Nat.le_of_ble_eq_true rfl⟩ dX6_hang_40 (fun H locs hw => ?_)
    refine lv_aload_n hx hb dX6_hang_43 rfl (lv_at hl 0 rfl) ?_
    refine lv_iload_n hx hb dX6_hang_44 rfl (lv_at hl 1 rfl) ?_
    refine lv_iload_n hx hb dX6_hang_45 rfl (lv_at hl 2 rfl) ?_
    refine lv_iload_n hx hb dX6_hang_46 rfl (lv_at hl 3 rfl) ?_
    refine lv_iload hx hb dX6_hang_47 (lv_at hl 4 rfl) ?_
    obtain ⟨v14, M15, e16, hf⟩ := cl_b2_e hf
    refine cr_Vi C hw (c_X6_doHang hlt ht0 e16) cy_X6_doHang vy_X6_doHang ml_X6_255 (cl_lt ht0 (by decide)) (cl_e6 ht0) rfl rfl (As := [.int a1, .int a2, .int a3, .int a4]) rfl hl.1 rfl ⟨⟨Nat.le_of_ble_eq_true rfl, Nat.le_of_ble_eq_true rfl⟩, Nat.le_of_ble_eq_true rfl, Nat.le_of_ble_eq_true rfl, Nat.le_of_ble_eq_true rfl⟩ dX6_hang_49 (fun H locs hw => ?_)
    obtain ⟨rfl, rfl⟩ := cl_pair hf
    exact cr_reti C hw dX6_hang_52
  · have hf := cl_no c11 hf
    refine lv_iconst (v := 0) hx hb dX6_hang_37 (by decide) ?_
    obtain ⟨rfl, rfl⟩ := cl_pair hf
    exact cr_reti C hw dX6_hang_38
def f_X6_hang (M : cl_M) (t0 : Nat) (a1 : Int32) (a2 : Int32) (a3 : Int32) (a4 : Int32) : Option (Int32 × cl_M) := cl_b2 (f_X6_canAsk M t0 a1 a2 a3 a4) (fun v1 M2 => if v1 = 0 then some (0, M2) else (f_X6_obstacle M2 t0 a1 a2 a3 a4).bind (fun v5 => if v5 = 0 then f_X6_hang_30 M2 t0 a1 a2 a3 a4 1 t0 else f_X6_hang_30 M2 t0 a1 a2 a3 a4 0 t0))
set_option maxHeartbeats 4000000 in
set_option maxRecDepth 100000 in
theorem k_X6_hang {p : Program} {l : Launch} {e : Env} {s : State} {m : MethodId} {args : Array Value} {below : List Frame} {meth : Method} {c : Code} {dd : cl_D} {b : Nat} (C : cl_C p l s m args meth c cX6_hang RX6 5 (some .int) dd b) : ∀ (M : cl_M) (t0 : Nat) (a1 : Int32) (a2 : Int32) (a3 : Int32) (a4 : Int32) (r : Int32) (M' : cl_M), f_X6_hang M t0 a1 a2 a3 a4 = some (r, M') → ∀ (H : Heap) (locs : List Loc) (ls : Array Slot), cl_sh dd t0 = 6 → cl_H dd b M s H locs → lv_has ls 5 [(0, .ref (b + t0)), (1, .int a1), (2, .int a2), (3, .int a3), (4, .int a4)] → W p l e { frames := 5, cells := 0, slots := 0, locals := 112 } s m args below meth c H locs 0 0 (cl_Zi below args s dd b r M') (F0 m 0 ls []) := by
  have hx := C.1
  have hb := C.2.1
  have hlt := C.2.2.2.2.2.2.2.2.2.2
  have hRr := C.2.2.2.2.2.2.2.2.2.1
  intro M t0 a1 a2 a3 a4 r M' hf H locs ls ht0 hw hl
  unfold f_X6_hang at hf
  refine lv_aload_n hx hb dX6_hang_0 rfl (lv_at hl 0 rfl) ?_
  refine lv_iload_n hx hb dX6_hang_1 rfl (lv_at hl 1 rfl) ?_
  refine lv_iload_n hx hb dX6_hang_2 rfl (lv_at hl 2 rfl) ?_
  refine lv_iload_n hx hb dX6_hang_3 rfl (lv_at hl 3 rfl) ?_
  refine lv_iload hx hb dX6_hang_4 (lv_at hl 4 rfl) ?_
  obtain ⟨v1, M2, e3, hf⟩ := cl_b2_e hf
  refine cr_Vi C hw (c_X6_canAsk hlt ht0 e3) cy_X6_canAsk vy_X6_canAsk ml_X6_341 (cl_lt ht0 (by decide)) (cl_e6 ht0) rfl rfl (As := [.int a1, .int a2, .int a3, .int a4]) rfl hl.1 rfl ⟨⟨Nat.le_of_ble_eq_true rfl, Nat.le_of_ble_eq_true rfl⟩, Nat.le_of_ble_eq_true rfl, Nat.le_of_ble_eq_true rfl, Nat.le_of_ble_eq_true rfl⟩ dX6_hang_6 (fun H locs hw => ?_)
  refine lv_if_eq (tgt := 37) hx hb dX6_hang_9 (by decide) (fun c4 => ?_) (fun c4 => ?_)
  · have hf := cl_yes c4 hf
    refine lv_iconst (v := 0) hx hb dX6_hang_37 (by decide) ?_
    obtain ⟨rfl, rfl⟩ := cl_pair hf
    exact cr_reti C hw dX6_hang_38
  · have hf := cl_no c4 hf
    refine lv_aload_n hx hb dX6_hang_12 rfl (lv_at hl 0 rfl) ?_
    refine lv_aload_n hx hb dX6_hang_13 rfl (lv_at hl 0 rfl) ?_
    refine lv_iload_n hx hb dX6_hang_14 rfl (lv_at hl 1 rfl) ?_
    refine lv_iload_n hx hb dX6_hang_15 rfl (lv_at hl 2 rfl) ?_
    refine lv_iload_n hx hb dX6_hang_16 rfl (lv_at hl 3 rfl) ?_
    refine lv_iload hx hb dX6_hang_17 (lv_at hl 4 rfl) ?_
    obtain ⟨v5, e6, hf⟩ := cl_bind_e hf
    refine cr_Vi C hw (c_X6_obstacle hlt ht0 e6) cy_X6_obstacle vy_X6_obstacle ml_X6_245 (cl_lt ht0 (by decide)) (cl_e6 ht0) rfl rfl (As := [.int a1, .int a2, .int a3, .int a4]) rfl hl.1 rfl ⟨⟨Nat.le_of_ble_eq_true rfl, Nat.le_of_ble_eq_true rfl⟩, Nat.le_of_ble_eq_true rfl, Nat.le_of_ble_eq_true rfl, Nat.le_of_ble_eq_true rfl⟩ dX6_hang_19 (fun H locs hw => ?_)
    refine lv_if_ne (tgt := 29) hx hb dX6_hang_22 (by decide) (fun c7 => ?_) (fun c7 => ?_)
    · have hf := cl_no c7 hf
      refine lv_iconst (v := 0) hx hb dX6_hang_29 (by decide) ?_
      exact k_X6_hang_30 C M2 t0 a1 a2 a3 a4 0 t0 _ _ hf _ _ _ ht0 ht0 hw (lv_sub hl [0, 1, 2, 3, 4] rfl)
    · have hf := cl_yes c7 hf
      refine lv_iconst (v := 1) hx hb dX6_hang_25 (by decide) ?_
      refine lv_goto (tgt := 30) hx hb dX6_hang_26 (by decide) ?_
      exact k_X6_hang_30 C M2 t0 a1 a2 a3 a4 1 t0 _ _ hf _ _ _ ht0 ht0 hw (lv_sub hl [0, 1, 2, 3, 4] rfl)
set_option maxRecDepth 100000 in
theorem c_X6_hang {l : Launch} {dd : cl_D} {b : Nat} (hlt : l.stackTraces = false) {M : cl_M} {t0 : Nat} {a1 : Int32} {a2 : Int32} {a3 : Int32} {a4 : Int32}  {r : Int32} {M' : cl_M} (ht0 : cl_sh dd t0 = 6) (h : f_X6_hang M t0 a1 a2 a3 a4 = some (r, M')) : cl_Mi l dd b yX6_hang cX6_hang 5 (some .int) 5 112 [.ref (b + t0), .int a1, .int a2, .int a3, .int a4] M r M' :=
  cl_of hlt (by decide) (Nat.le_of_ble_eq_true rfl) (fun p e s m below meth c ls C hw hl => k_X6_hang C M t0 a1 a2 a3 a4 r M' h _ _ _ ht0 hw (lv_sub hl [0, 1, 2, 3, 4] rfl))
theorem cy_X6_hang : cl_cy yX6_hang cX6_hang 5 (some .int) 4 := ⟨in_ClothesLineModel, cd_X6_hang, by decide +kernel, by decide +kernel, by decide +kernel⟩
theorem vy_X6_hang : cl_vy yX6_hang := ⟨im_X6_hang, se_X6_hang⟩
def f_X6_takeDown (M : cl_M) (t0 : Nat) (a1 : Int32) : Option (Int32 × cl_M) := cl_b2 (f_X6_isGarment M t0 a1) (fun v1 M2 => if v1 = 0 then some (0, M2) else (f_X6_isIn M2 t0 a1 1).bind (fun v5 => cl_b2 (f_X6_fails M2 t0 v5 2) (fun v7 M8 => if v7 = 0 then (f_X6_record M8 t0).bind (fun M11 => cl_b2 (f_X6_doTake M11 t0 a1) (fun v13 M14 => some (v13, M14))) else some (0, M8))))
set_option maxHeartbeats 4000000 in
set_option maxRecDepth 100000 in
theorem k_X6_takeDown {p : Program} {l : Launch} {e : Env} {s : State} {m : MethodId} {args : Array Value} {below : List Frame} {meth : Method} {c : Code} {dd : cl_D} {b : Nat} (C : cl_C p l s m args meth c cX6_takeDown RX6 2 (some .int) dd b) : ∀ (M : cl_M) (t0 : Nat) (a1 : Int32) (r : Int32) (M' : cl_M), f_X6_takeDown M t0 a1 = some (r, M') → ∀ (H : Heap) (locs : List Loc) (ls : Array Slot), cl_sh dd t0 = 6 → cl_H dd b M s H locs → lv_has ls 2 [(0, .ref (b + t0)), (1, .int a1)] → W p l e { frames := 3, cells := 0, slots := 0, locals := 65 } s m args below meth c H locs 0 0 (cl_Zi below args s dd b r M') (F0 m 0 ls []) := by
  have hx := C.1
  have hb := C.2.1
  have hlt := C.2.2.2.2.2.2.2.2.2.2
  have hRr := C.2.2.2.2.2.2.2.2.2.1
  intro M t0 a1 r M' hf H locs ls ht0 hw hl
  unfold f_X6_takeDown at hf
  refine lv_aload_n hx hb dX6_takeDown_0 rfl (lv_at hl 0 rfl) ?_
  refine lv_iload_n hx hb dX6_takeDown_1 rfl (lv_at hl 1 rfl) ?_
  obtain ⟨v1, M2, e3, hf⟩ := cl_b2_e hf
  refine cr_Vi C hw (c_X6_isGarment hlt ht0 e3) cy_X6_isGarment vy_X6_isGarment ml_X6_332 (cl_lt ht0 (by decide)) (cl_e6 ht0) rfl rfl (As := [.int a1]) rfl hl.1 rfl ⟨⟨Nat.le_of_ble_eq_true rfl, Nat.le_of_ble_eq_true rfl⟩, Nat.le_of_ble_eq_true rfl, Nat.le_of_ble_eq_true rfl, Nat.le_of_ble_eq_true rfl⟩ dX6_takeDown_2 (fun H locs hw => ?_)
  refine lv_if_eq (tgt := 22) hx hb dX6_takeDown_5 (by decide) (fun c4 => ?_) (fun c4 => ?_)
  · have hf := cl_yes c4 hf
    refine lv_iconst (v := 0) hx hb dX6_takeDown_22 (by decide) ?_
    obtain ⟨rfl, rfl⟩ := cl_pair hf
    exact cr_reti C hw dX6_takeDown_23
  · have hf := cl_no c4 hf
    refine lv_aload_n hx hb dX6_takeDown_8 rfl (lv_at hl 0 rfl) ?_
    refine lv_aload_n hx hb dX6_takeDown_9 rfl (lv_at hl 0 rfl) ?_
    refine lv_iload_n hx hb dX6_takeDown_10 rfl (lv_at hl 1 rfl) ?_
    refine lv_iconst (v := 1) hx hb dX6_takeDown_11 (by decide) ?_
    obtain ⟨v5, e6, hf⟩ := cl_bind_e hf
    refine cr_Vi C hw (c_X6_isIn hlt ht0 e6) cy_X6_isIn vy_X6_isIn ml_X6_84 (cl_lt ht0 (by decide)) (cl_e6 ht0) rfl rfl (As := [.int a1, .int 1]) rfl hl.1 rfl ⟨⟨Nat.le_of_ble_eq_true rfl, Nat.le_of_ble_eq_true rfl⟩, Nat.le_of_ble_eq_true rfl, Nat.le_of_ble_eq_true rfl, Nat.le_of_ble_eq_true rfl⟩ dX6_takeDown_12 (fun H locs hw => ?_)
    refine lv_iconst (v := 2) hx hb dX6_takeDown_15 (by decide) ?_
    obtain ⟨v7, M8, e9, hf⟩ := cl_b2_e hf
    refine cr_Vi C hw (c_X6_fails hlt ht0 e9) cy_X6_fails vy_X6_fails ml_X6_313 (cl_lt ht0 (by decide)) (cl_e6 ht0) rfl rfl (As := [.int v5, .int 2]) rfl hl.1 rfl ⟨⟨Nat.le_of_ble_eq_true rfl, Nat.le_of_ble_eq_true rfl⟩, Nat.le_of_ble_eq_true rfl, Nat.le_of_ble_eq_true rfl, Nat.le_of_ble_eq_true rfl⟩ dX6_takeDown_16 (fun H locs hw => ?_)
    refine lv_if_eq (tgt := 24) hx hb dX6_takeDown_19 (by decide) (fun c10 => ?_) (fun c10 => ?_)
    · have hf := cl_yes c10 hf
      refine lv_aload_n hx hb dX6_takeDown_24 rfl (lv_at hl 0 rfl) ?_
      obtain ⟨M11, e12, hf⟩ := cl_bind_e hf
      refine cr_Vv C hw (c_X6_record hlt ht0 e12) cy_X6_record vy_X6_record ml_X6_354 (cl_lt ht0 (by decide)) (cl_e6 ht0) rfl rfl (As := []) rfl hl.1 rfl ⟨⟨Nat.le_of_ble_eq_true rfl, Nat.le_of_ble_eq_true rfl⟩, Nat.le_of_ble_eq_true rfl, Nat.le_of_ble_eq_true rfl, Nat.le_of_ble_eq_true rfl⟩ dX6_takeDown_25 (fun H locs hw => ?_)
      refine lv_aload_n hx hb dX6_takeDown_28 rfl (lv_at hl 0 rfl) ?_
      refine lv_iload_n hx hb dX6_takeDown_29 rfl (lv_at hl 1 rfl) ?_
      obtain ⟨v13, M14, e15, hf⟩ := cl_b2_e hf
      refine cr_Vi C hw (c_X6_doTake hlt ht0 e15) cy_X6_doTake vy_X6_doTake ml_X6_258 (cl_lt ht0 (by decide)) (cl_e6 ht0) rfl rfl (As := [.int a1]) rfl hl.1 rfl ⟨⟨Nat.le_of_ble_eq_true rfl, Nat.le_of_ble_eq_true rfl⟩, Nat.le_of_ble_eq_true rfl, Nat.le_of_ble_eq_true rfl, Nat.le_of_ble_eq_true rfl⟩ dX6_takeDown_30 (fun H locs hw => ?_)
      obtain ⟨rfl, rfl⟩ := cl_pair hf
      exact cr_reti C hw dX6_takeDown_33
    · have hf := cl_no c10 hf
      refine lv_iconst (v := 0) hx hb dX6_takeDown_22 (by decide) ?_
      obtain ⟨rfl, rfl⟩ := cl_pair hf
      exact cr_reti C hw dX6_takeDown_23
set_option maxRecDepth 100000 in
theorem c_X6_takeDown {l : Launch} {dd : cl_D} {b : Nat} (hlt : l.stackTraces = false) {M : cl_M} {t0 : Nat} {a1 : Int32}  {r : Int32} {M' : cl_M} (ht0 : cl_sh dd t0 = 6) (h : f_X6_takeDown M t0 a1 = some (r, M')) : cl_Mi l dd b yX6_takeDown cX6_takeDown 2 (some .int) 3 65 [.ref (b + t0), .int a1] M r M' :=
  cl_of hlt (by decide) (Nat.le_of_ble_eq_true rfl) (fun p e s m below meth c ls C hw hl => k_X6_takeDown C M t0 a1 r M' h _ _ _ ht0 hw (lv_sub hl [0, 1] rfl))
theorem cy_X6_takeDown : cl_cy yX6_takeDown cX6_takeDown 2 (some .int) 1 := ⟨in_ClothesLineModel, cd_X6_takeDown, by decide +kernel, by decide +kernel, by decide +kernel⟩
theorem vy_X6_takeDown : cl_vy yX6_takeDown := ⟨im_X6_takeDown, se_X6_takeDown⟩
def f_X6_pickUp (M : cl_M) (t0 : Nat) (a1 : Int32) : Option (Int32 × cl_M) := cl_b2 (f_X6_isGarment M t0 a1) (fun v1 M2 => if v1 = 0 then some (0, M2) else (f_X6_isIn M2 t0 a1 2).bind (fun v5 => cl_b2 (f_X6_fails M2 t0 v5 2) (fun v7 M8 => if v7 = 0 then (f_X6_record M8 t0).bind (fun M11 => cl_b2 (f_X6_doPick M11 t0 a1) (fun v13 M14 => some (v13, M14))) else some (0, M8))))
set_option maxHeartbeats 4000000 in
set_option maxRecDepth 100000 in
theorem k_X6_pickUp {p : Program} {l : Launch} {e : Env} {s : State} {m : MethodId} {args : Array Value} {below : List Frame} {meth : Method} {c : Code} {dd : cl_D} {b : Nat} (C : cl_C p l s m args meth c cX6_pickUp RX6 2 (some .int) dd b) : ∀ (M : cl_M) (t0 : Nat) (a1 : Int32) (r : Int32) (M' : cl_M), f_X6_pickUp M t0 a1 = some (r, M') → ∀ (H : Heap) (locs : List Loc) (ls : Array Slot), cl_sh dd t0 = 6 → cl_H dd b M s H locs → lv_has ls 2 [(0, .ref (b + t0)), (1, .int a1)] → W p l e { frames := 4, cells := 0, slots := 0, locals := 88 } s m args below meth c H locs 0 0 (cl_Zi below args s dd b r M') (F0 m 0 ls []) := by
  have hx := C.1
  have hb := C.2.1
  have hlt := C.2.2.2.2.2.2.2.2.2.2
  have hRr := C.2.2.2.2.2.2.2.2.2.1
  intro M t0 a1 r M' hf H locs ls ht0 hw hl
  unfold f_X6_pickUp at hf
  refine lv_aload_n hx hb dX6_pickUp_0 rfl (lv_at hl 0 rfl) ?_
  refine lv_iload_n hx hb dX6_pickUp_1 rfl (lv_at hl 1 rfl) ?_
  obtain ⟨v1, M2, e3, hf⟩ := cl_b2_e hf
  refine cr_Vi C hw (c_X6_isGarment hlt ht0 e3) cy_X6_isGarment vy_X6_isGarment ml_X6_332 (cl_lt ht0 (by decide)) (cl_e6 ht0) rfl rfl (As := [.int a1]) rfl hl.1 rfl ⟨⟨Nat.le_of_ble_eq_true rfl, Nat.le_of_ble_eq_true rfl⟩, Nat.le_of_ble_eq_true rfl, Nat.le_of_ble_eq_true rfl, Nat.le_of_ble_eq_true rfl⟩ dX6_pickUp_2 (fun H locs hw => ?_)
  refine lv_if_eq (tgt := 22) hx hb dX6_pickUp_5 (by decide) (fun c4 => ?_) (fun c4 => ?_)
  · have hf := cl_yes c4 hf
    refine lv_iconst (v := 0) hx hb dX6_pickUp_22 (by decide) ?_
    obtain ⟨rfl, rfl⟩ := cl_pair hf
    exact cr_reti C hw dX6_pickUp_23
  · have hf := cl_no c4 hf
    refine lv_aload_n hx hb dX6_pickUp_8 rfl (lv_at hl 0 rfl) ?_
    refine lv_aload_n hx hb dX6_pickUp_9 rfl (lv_at hl 0 rfl) ?_
    refine lv_iload_n hx hb dX6_pickUp_10 rfl (lv_at hl 1 rfl) ?_
    refine lv_iconst (v := 2) hx hb dX6_pickUp_11 (by decide) ?_
    obtain ⟨v5, e6, hf⟩ := cl_bind_e hf
    refine cr_Vi C hw (c_X6_isIn hlt ht0 e6) cy_X6_isIn vy_X6_isIn ml_X6_84 (cl_lt ht0 (by decide)) (cl_e6 ht0) rfl rfl (As := [.int a1, .int 2]) rfl hl.1 rfl ⟨⟨Nat.le_of_ble_eq_true rfl, Nat.le_of_ble_eq_true rfl⟩, Nat.le_of_ble_eq_true rfl, Nat.le_of_ble_eq_true rfl, Nat.le_of_ble_eq_true rfl⟩ dX6_pickUp_12 (fun H locs hw => ?_)
    refine lv_iconst (v := 2) hx hb dX6_pickUp_15 (by decide) ?_
    obtain ⟨v7, M8, e9, hf⟩ := cl_b2_e hf
    refine cr_Vi C hw (c_X6_fails hlt ht0 e9) cy_X6_fails vy_X6_fails ml_X6_313 (cl_lt ht0 (by decide)) (cl_e6 ht0) rfl rfl (As := [.int v5, .int 2]) rfl hl.1 rfl ⟨⟨Nat.le_of_ble_eq_true rfl, Nat.le_of_ble_eq_true rfl⟩, Nat.le_of_ble_eq_true rfl, Nat.le_of_ble_eq_true rfl, Nat.le_of_ble_eq_true rfl⟩ dX6_pickUp_16 (fun H locs hw => ?_)
    refine lv_if_eq (tgt := 24) hx hb dX6_pickUp_19 (by decide) (fun c10 => ?_) (fun c10 => ?_)
    · have hf := cl_yes c10 hf
      refine lv_aload_n hx hb dX6_pickUp_24 rfl (lv_at hl 0 rfl) ?_
      obtain ⟨M11, e12, hf⟩ := cl_bind_e hf
      refine cr_Vv C hw (c_X6_record hlt ht0 e12) cy_X6_record vy_X6_record ml_X6_354 (cl_lt ht0 (by decide)) (cl_e6 ht0) rfl rfl (As := []) rfl hl.1 rfl ⟨⟨Nat.le_of_ble_eq_true rfl, Nat.le_of_ble_eq_true rfl⟩, Nat.le_of_ble_eq_true rfl, Nat.le_of_ble_eq_true rfl, Nat.le_of_ble_eq_true rfl⟩ dX6_pickUp_25 (fun H locs hw => ?_)
      refine lv_aload_n hx hb dX6_pickUp_28 rfl (lv_at hl 0 rfl) ?_
      refine lv_iload_n hx hb dX6_pickUp_29 rfl (lv_at hl 1 rfl) ?_
      obtain ⟨v13, M14, e15, hf⟩ := cl_b2_e hf
      refine cr_Vi C hw (c_X6_doPick hlt ht0 e15) cy_X6_doPick vy_X6_doPick ml_X6_261 (cl_lt ht0 (by decide)) (cl_e6 ht0) rfl rfl (As := [.int a1]) rfl hl.1 rfl ⟨⟨Nat.le_of_ble_eq_true rfl, Nat.le_of_ble_eq_true rfl⟩, Nat.le_of_ble_eq_true rfl, Nat.le_of_ble_eq_true rfl, Nat.le_of_ble_eq_true rfl⟩ dX6_pickUp_30 (fun H locs hw => ?_)
      obtain ⟨rfl, rfl⟩ := cl_pair hf
      exact cr_reti C hw dX6_pickUp_33
    · have hf := cl_no c10 hf
      refine lv_iconst (v := 0) hx hb dX6_pickUp_22 (by decide) ?_
      obtain ⟨rfl, rfl⟩ := cl_pair hf
      exact cr_reti C hw dX6_pickUp_23
set_option maxRecDepth 100000 in
theorem c_X6_pickUp {l : Launch} {dd : cl_D} {b : Nat} (hlt : l.stackTraces = false) {M : cl_M} {t0 : Nat} {a1 : Int32}  {r : Int32} {M' : cl_M} (ht0 : cl_sh dd t0 = 6) (h : f_X6_pickUp M t0 a1 = some (r, M')) : cl_Mi l dd b yX6_pickUp cX6_pickUp 2 (some .int) 4 88 [.ref (b + t0), .int a1] M r M' :=
  cl_of hlt (by decide) (Nat.le_of_ble_eq_true rfl) (fun p e s m below meth c ls C hw hl => k_X6_pickUp C M t0 a1 r M' h _ _ _ ht0 hw (lv_sub hl [0, 1] rfl))
theorem cy_X6_pickUp : cl_cy yX6_pickUp cX6_pickUp 2 (some .int) 1 := ⟨in_ClothesLineModel, cd_X6_pickUp, by decide +kernel, by decide +kernel, by decide +kernel⟩
theorem vy_X6_pickUp : cl_vy yX6_pickUp := ⟨im_X6_pickUp, se_X6_pickUp⟩
def f_X6_wash (M : cl_M) (t0 : Nat) (a1 : Int32) : Option (Int32 × cl_M) := cl_b2 (f_X6_isGarment M t0 a1) (fun v1 M2 => if v1 = 0 then some (0, M2) else (f_X6_isIn M2 t0 a1 0).bind (fun v5 => cl_b2 (f_X6_fails M2 t0 v5 2) (fun v7 M8 => if v7 = 0 then (f_X6_record M8 t0).bind (fun M11 => cl_b2 (f_X6_doWash M11 t0 a1) (fun v13 M14 => some (v13, M14))) else some (0, M8))))
set_option maxHeartbeats 4000000 in
set_option maxRecDepth 100000 in
theorem k_X6_wash {p : Program} {l : Launch} {e : Env} {s : State} {m : MethodId} {args : Array Value} {below : List Frame} {meth : Method} {c : Code} {dd : cl_D} {b : Nat} (C : cl_C p l s m args meth c cX6_wash RX6 2 (some .int) dd b) : ∀ (M : cl_M) (t0 : Nat) (a1 : Int32) (r : Int32) (M' : cl_M), f_X6_wash M t0 a1 = some (r, M') → ∀ (H : Heap) (locs : List Loc) (ls : Array Slot), cl_sh dd t0 = 6 → cl_H dd b M s H locs → lv_has ls 2 [(0, .ref (b + t0)), (1, .int a1)] → W p l e { frames := 3, cells := 0, slots := 0, locals := 67 } s m args below meth c H locs 0 0 (cl_Zi below args s dd b r M') (F0 m 0 ls []) := by
  have hx := C.1
  have hb := C.2.1
  have hlt := C.2.2.2.2.2.2.2.2.2.2
  have hRr := C.2.2.2.2.2.2.2.2.2.1
  intro M t0 a1 r M' hf H locs ls ht0 hw hl
  unfold f_X6_wash at hf
  refine lv_aload_n hx hb dX6_wash_0 rfl (lv_at hl 0 rfl) ?_
  refine lv_iload_n hx hb dX6_wash_1 rfl (lv_at hl 1 rfl) ?_
  obtain ⟨v1, M2, e3, hf⟩ := cl_b2_e hf
  refine cr_Vi C hw (c_X6_isGarment hlt ht0 e3) cy_X6_isGarment vy_X6_isGarment ml_X6_332 (cl_lt ht0 (by decide)) (cl_e6 ht0) rfl rfl (As := [.int a1]) rfl hl.1 rfl ⟨⟨Nat.le_of_ble_eq_true rfl, Nat.le_of_ble_eq_true rfl⟩, Nat.le_of_ble_eq_true rfl, Nat.le_of_ble_eq_true rfl, Nat.le_of_ble_eq_true rfl⟩ dX6_wash_2 (fun H locs hw => ?_)
  refine lv_if_eq (tgt := 22) hx hb dX6_wash_5 (by decide) (fun c4 => ?_) (fun c4 => ?_)
  · have hf := cl_yes c4 hf
    refine lv_iconst (v := 0) hx hb dX6_wash_22 (by decide) ?_
    obtain ⟨rfl, rfl⟩ := cl_pair hf
    exact cr_reti C hw dX6_wash_23
  · have hf := cl_no c4 hf
    refine lv_aload_n hx hb dX6_wash_8 rfl (lv_at hl 0 rfl) ?_
    refine lv_aload_n hx hb dX6_wash_9 rfl (lv_at hl 0 rfl) ?_
    refine lv_iload_n hx hb dX6_wash_10 rfl (lv_at hl 1 rfl) ?_
    refine lv_iconst (v := 0) hx hb dX6_wash_11 (by decide) ?_
    obtain ⟨v5, e6, hf⟩ := cl_bind_e hf
    refine cr_Vi C hw (c_X6_isIn hlt ht0 e6) cy_X6_isIn vy_X6_isIn ml_X6_84 (cl_lt ht0 (by decide)) (cl_e6 ht0) rfl rfl (As := [.int a1, .int 0]) rfl hl.1 rfl ⟨⟨Nat.le_of_ble_eq_true rfl, Nat.le_of_ble_eq_true rfl⟩, Nat.le_of_ble_eq_true rfl, Nat.le_of_ble_eq_true rfl, Nat.le_of_ble_eq_true rfl⟩ dX6_wash_12 (fun H locs hw => ?_)
    refine lv_iconst (v := 2) hx hb dX6_wash_15 (by decide) ?_
    obtain ⟨v7, M8, e9, hf⟩ := cl_b2_e hf
    refine cr_Vi C hw (c_X6_fails hlt ht0 e9) cy_X6_fails vy_X6_fails ml_X6_313 (cl_lt ht0 (by decide)) (cl_e6 ht0) rfl rfl (As := [.int v5, .int 2]) rfl hl.1 rfl ⟨⟨Nat.le_of_ble_eq_true rfl, Nat.le_of_ble_eq_true rfl⟩, Nat.le_of_ble_eq_true rfl, Nat.le_of_ble_eq_true rfl, Nat.le_of_ble_eq_true rfl⟩ dX6_wash_16 (fun H locs hw => ?_)
    refine lv_if_eq (tgt := 24) hx hb dX6_wash_19 (by decide) (fun c10 => ?_) (fun c10 => ?_)
    · have hf := cl_yes c10 hf
      refine lv_aload_n hx hb dX6_wash_24 rfl (lv_at hl 0 rfl) ?_
      obtain ⟨M11, e12, hf⟩ := cl_bind_e hf
      refine cr_Vv C hw (c_X6_record hlt ht0 e12) cy_X6_record vy_X6_record ml_X6_354 (cl_lt ht0 (by decide)) (cl_e6 ht0) rfl rfl (As := []) rfl hl.1 rfl ⟨⟨Nat.le_of_ble_eq_true rfl, Nat.le_of_ble_eq_true rfl⟩, Nat.le_of_ble_eq_true rfl, Nat.le_of_ble_eq_true rfl, Nat.le_of_ble_eq_true rfl⟩ dX6_wash_25 (fun H locs hw => ?_)
      refine lv_aload_n hx hb dX6_wash_28 rfl (lv_at hl 0 rfl) ?_
      refine lv_iload_n hx hb dX6_wash_29 rfl (lv_at hl 1 rfl) ?_
      obtain ⟨v13, M14, e15, hf⟩ := cl_b2_e hf
      refine cr_Vi C hw (c_X6_doWash hlt ht0 e15) cy_X6_doWash vy_X6_doWash ml_X6_264 (cl_lt ht0 (by decide)) (cl_e6 ht0) rfl rfl (As := [.int a1]) rfl hl.1 rfl ⟨⟨Nat.le_of_ble_eq_true rfl, Nat.le_of_ble_eq_true rfl⟩, Nat.le_of_ble_eq_true rfl, Nat.le_of_ble_eq_true rfl, Nat.le_of_ble_eq_true rfl⟩ dX6_wash_30 (fun H locs hw => ?_)
      obtain ⟨rfl, rfl⟩ := cl_pair hf
      exact cr_reti C hw dX6_wash_33
    · have hf := cl_no c10 hf
      refine lv_iconst (v := 0) hx hb dX6_wash_22 (by decide) ?_
      obtain ⟨rfl, rfl⟩ := cl_pair hf
      exact cr_reti C hw dX6_wash_23
set_option maxRecDepth 100000 in
theorem c_X6_wash {l : Launch} {dd : cl_D} {b : Nat} (hlt : l.stackTraces = false) {M : cl_M} {t0 : Nat} {a1 : Int32}  {r : Int32} {M' : cl_M} (ht0 : cl_sh dd t0 = 6) (h : f_X6_wash M t0 a1 = some (r, M')) : cl_Mi l dd b yX6_wash cX6_wash 2 (some .int) 3 67 [.ref (b + t0), .int a1] M r M' :=
  cl_of hlt (by decide) (Nat.le_of_ble_eq_true rfl) (fun p e s m below meth c ls C hw hl => k_X6_wash C M t0 a1 r M' h _ _ _ ht0 hw (lv_sub hl [0, 1] rfl))
theorem cy_X6_wash : cl_cy yX6_wash cX6_wash 2 (some .int) 1 := ⟨in_ClothesLineModel, cd_X6_wash, by decide +kernel, by decide +kernel, by decide +kernel⟩
theorem vy_X6_wash : cl_vy yX6_wash := ⟨im_X6_wash, se_X6_wash⟩
def f_X6_shift (M : cl_M) (t0 : Nat) (a1 : Int32) (a2 : Int32) : Option (Int32 × cl_M) := cl_b2 (f_X6_isGarment M t0 a1) (fun v1 M2 => if v1 = 0 then some (0, M2) else cl_b2 (f_X6_isSpot M2 t0 a2 2) (fun v5 M6 => if v5 = 0 then some (0, M6) else (f_X6_canShift M6 t0 a1 a2).bind (fun v9 => cl_b2 (f_X6_fails M6 t0 v9 3) (fun v11 M12 => if v11 = 0 then (f_X6_record M12 t0).bind (fun M15 => cl_b2 (f_X6_doShift M15 t0 a1 a2) (fun v17 M18 => some (v17, M18))) else some (0, M12)))))
set_option maxHeartbeats 4000000 in
set_option maxRecDepth 100000 in
theorem k_X6_shift {p : Program} {l : Launch} {e : Env} {s : State} {m : MethodId} {args : Array Value} {below : List Frame} {meth : Method} {c : Code} {dd : cl_D} {b : Nat} (C : cl_C p l s m args meth c cX6_shift RX6 3 (some .int) dd b) : ∀ (M : cl_M) (t0 : Nat) (a1 : Int32) (a2 : Int32) (r : Int32) (M' : cl_M), f_X6_shift M t0 a1 a2 = some (r, M') → ∀ (H : Heap) (locs : List Loc) (ls : Array Slot), cl_sh dd t0 = 6 → cl_H dd b M s H locs → lv_has ls 3 [(0, .ref (b + t0)), (1, .int a1), (2, .int a2)] → W p l e { frames := 5, cells := 0, slots := 0, locals := 110 } s m args below meth c H locs 0 0 (cl_Zi below args s dd b r M') (F0 m 0 ls []) := by
  have hx := C.1
  have hb := C.2.1
  have hlt := C.2.2.2.2.2.2.2.2.2.2
  have hRr := C.2.2.2.2.2.2.2.2.2.1
  intro M t0 a1 a2 r M' hf H locs ls ht0 hw hl
  unfold f_X6_shift at hf
  refine lv_aload_n hx hb dX6_shift_0 rfl (lv_at hl 0 rfl) ?_
  refine lv_iload_n hx hb dX6_shift_1 rfl (lv_at hl 1 rfl) ?_
  obtain ⟨v1, M2, e3, hf⟩ := cl_b2_e hf
  refine cr_Vi C hw (c_X6_isGarment hlt ht0 e3) cy_X6_isGarment vy_X6_isGarment ml_X6_332 (cl_lt ht0 (by decide)) (cl_e6 ht0) rfl rfl (As := [.int a1]) rfl hl.1 rfl ⟨⟨Nat.le_of_ble_eq_true rfl, Nat.le_of_ble_eq_true rfl⟩, Nat.le_of_ble_eq_true rfl, Nat.le_of_ble_eq_true rfl, Nat.le_of_ble_eq_true rfl⟩ dX6_shift_2 (fun H locs hw => ?_)
  refine lv_if_eq (tgt := 31) hx hb dX6_shift_5 (by decide) (fun c4 => ?_) (fun c4 => ?_)
  · have hf := cl_yes c4 hf
    refine lv_iconst (v := 0) hx hb dX6_shift_31 (by decide) ?_
    obtain ⟨rfl, rfl⟩ := cl_pair hf
    exact cr_reti C hw dX6_shift_32
  · have hf := cl_no c4 hf
    refine lv_aload_n hx hb dX6_shift_8 rfl (lv_at hl 0 rfl) ?_
    refine lv_iload_n hx hb dX6_shift_9 rfl (lv_at hl 2 rfl) ?_
    refine lv_iconst (v := 2) hx hb dX6_shift_10 (by decide) ?_
    obtain ⟨v5, M6, e7, hf⟩ := cl_b2_e hf
    refine cr_Vi C hw (c_X6_isSpot hlt ht0 e7) cy_X6_isSpot vy_X6_isSpot ml_X6_326 (cl_lt ht0 (by decide)) (cl_e6 ht0) rfl rfl (As := [.int a2, .int 2]) rfl hl.1 rfl ⟨⟨Nat.le_of_ble_eq_true rfl, Nat.le_of_ble_eq_true rfl⟩, Nat.le_of_ble_eq_true rfl, Nat.le_of_ble_eq_true rfl, Nat.le_of_ble_eq_true rfl⟩ dX6_shift_11 (fun H locs hw => ?_)
    refine lv_if_eq (tgt := 31) hx hb dX6_shift_14 (by decide) (fun c8 => ?_) (fun c8 => ?_)
    · have hf := cl_yes c8 hf
      refine lv_iconst (v := 0) hx hb dX6_shift_31 (by decide) ?_
      obtain ⟨rfl, rfl⟩ := cl_pair hf
      exact cr_reti C hw dX6_shift_32
    · have hf := cl_no c8 hf
      refine lv_aload_n hx hb dX6_shift_17 rfl (lv_at hl 0 rfl) ?_
      refine lv_aload_n hx hb dX6_shift_18 rfl (lv_at hl 0 rfl) ?_
      refine lv_iload_n hx hb dX6_shift_19 rfl (lv_at hl 1 rfl) ?_
      refine lv_iload_n hx hb dX6_shift_20 rfl (lv_at hl 2 rfl) ?_
      obtain ⟨v9, e10, hf⟩ := cl_bind_e hf
      refine cr_Vi C hw (c_X6_canShift hlt ht0 e10) cy_X6_canShift vy_X6_canShift ml_X6_249 (cl_lt ht0 (by decide)) (cl_e6 ht0) rfl rfl (As := [.int a1, .int a2]) rfl hl.1 rfl ⟨⟨Nat.le_of_ble_eq_true rfl, Nat.le_of_ble_eq_true rfl⟩, Nat.le_of_ble_eq_true rfl, Nat.le_of_ble_eq_true rfl, Nat.le_of_ble_eq_true rfl⟩ dX6_shift_21 (fun H locs hw => ?_)
      refine lv_iconst (v := 3) hx hb dX6_shift_24 (by decide) ?_
      obtain ⟨v11, M12, e13, hf⟩ := cl_b2_e hf
      refine cr_Vi C hw (c_X6_fails hlt ht0 e13) cy_X6_fails vy_X6_fails ml_X6_313 (cl_lt ht0 (by decide)) (cl_e6 ht0) rfl rfl (As := [.int v9, .int 3]) rfl hl.1 rfl ⟨⟨Nat.le_of_ble_eq_true rfl, Nat.le_of_ble_eq_true rfl⟩, Nat.le_of_ble_eq_true rfl, Nat.le_of_ble_eq_true rfl, Nat.le_of_ble_eq_true rfl⟩ dX6_shift_25 (fun H locs hw => ?_)
      refine lv_if_eq (tgt := 33) hx hb dX6_shift_28 (by decide) (fun c14 => ?_) (fun c14 => ?_)
      · have hf := cl_yes c14 hf
        refine lv_aload_n hx hb dX6_shift_33 rfl (lv_at hl 0 rfl) ?_
        obtain ⟨M15, e16, hf⟩ := cl_bind_e hf
        refine cr_Vv C hw (c_X6_record hlt ht0 e16) cy_X6_record vy_X6_record ml_X6_354 (cl_lt ht0 (by decide)) (cl_e6 ht0) rfl rfl (As := []) rfl hl.1 rfl ⟨⟨Nat.le_of_ble_eq_true rfl, Nat.le_of_ble_eq_true rfl⟩, Nat.le_of_ble_eq_true rfl, Nat.le_of_ble_eq_true rfl, Nat.le_of_ble_eq_true rfl⟩ dX6_shift_34 (fun H locs hw => ?_)
        refine lv_aload_n hx hb dX6_shift_37 rfl (lv_at hl 0 rfl) ?_
        refine lv_iload_n hx hb dX6_shift_38 rfl (lv_at hl 1 rfl) ?_
        refine lv_iload_n hx hb dX6_shift_39 rfl (lv_at hl 2 rfl) ?_
        obtain ⟨v17, M18, e19, hf⟩ := cl_b2_e hf
        refine cr_Vi C hw (c_X6_doShift hlt ht0 e19) cy_X6_doShift vy_X6_doShift ml_X6_267 (cl_lt ht0 (by decide)) (cl_e6 ht0) rfl rfl (As := [.int a1, .int a2]) rfl hl.1 rfl ⟨⟨Nat.le_of_ble_eq_true rfl, Nat.le_of_ble_eq_true rfl⟩, Nat.le_of_ble_eq_true rfl, Nat.le_of_ble_eq_true rfl, Nat.le_of_ble_eq_true rfl⟩ dX6_shift_40 (fun H locs hw => ?_)
        obtain ⟨rfl, rfl⟩ := cl_pair hf
        exact cr_reti C hw dX6_shift_43
      · have hf := cl_no c14 hf
        refine lv_iconst (v := 0) hx hb dX6_shift_31 (by decide) ?_
        obtain ⟨rfl, rfl⟩ := cl_pair hf
        exact cr_reti C hw dX6_shift_32
set_option maxRecDepth 100000 in
theorem c_X6_shift {l : Launch} {dd : cl_D} {b : Nat} (hlt : l.stackTraces = false) {M : cl_M} {t0 : Nat} {a1 : Int32} {a2 : Int32}  {r : Int32} {M' : cl_M} (ht0 : cl_sh dd t0 = 6) (h : f_X6_shift M t0 a1 a2 = some (r, M')) : cl_Mi l dd b yX6_shift cX6_shift 3 (some .int) 5 110 [.ref (b + t0), .int a1, .int a2] M r M' :=
  cl_of hlt (by decide) (Nat.le_of_ble_eq_true rfl) (fun p e s m below meth c ls C hw hl => k_X6_shift C M t0 a1 a2 r M' h _ _ _ ht0 hw (lv_sub hl [0, 1, 2] rfl))
theorem cy_X6_shift : cl_cy yX6_shift cX6_shift 3 (some .int) 2 := ⟨in_ClothesLineModel, cd_X6_shift, by decide +kernel, by decide +kernel, by decide +kernel⟩
theorem vy_X6_shift : cl_vy yX6_shift := ⟨im_X6_shift, se_X6_shift⟩
def f_X6_addShower_70 (M : cl_M) (t0 : Nat) (a1 : Int32) (a2 : Int32) (a3 : Int32) (z0 : Int32) (w1 : Nat) : Option (Int32 × cl_M) := cl_b2 (f_X6_fails M w1 z0 2) (fun v10 M11 => if v10 = 0 then (f_X6_record M11 t0).bind (fun M14 => cl_b2 (f_X6_doShower M14 t0 a1 a2 a3) (fun v16 M17 => some (v16, M17))) else some (0, M11))
set_option maxHeartbeats 4000000 in
set_option maxRecDepth 100000 in
theorem k_X6_addShower_70 {p : Program} {l : Launch} {e : Env} {s : State} {m : MethodId} {args : Array Value} {below : List Frame} {meth : Method} {c : Code} {dd : cl_D} {b : Nat} (C : cl_C p l s m args meth c cX6_addShower RX6 5 (some .int) dd b) : ∀ (M : cl_M) (t0 : Nat) (a1 : Int32) (a2 : Int32) (a3 : Int32) (z0 : Int32) (w1 : Nat) (r : Int32) (M' : cl_M), f_X6_addShower_70 M t0 a1 a2 a3 z0 w1 = some (r, M') → ∀ (H : Heap) (locs : List Loc) (ls : Array Slot), cl_sh dd t0 = 6 → cl_sh dd w1 = 6 → cl_H dd b M s H locs → lv_has ls 5 [(0, .ref (b + t0)), (1, .int a1), (2, .int a2), (3, .int a3)] → W p l e { frames := 2, cells := 0, slots := 0, locals := 42 } s m args below meth c H locs 0 0 (cl_Zi below args s dd b r M') (F0 m 70 ls [.int z0, .ref (b + w1)]) := by
  have hx := C.1
  have hb := C.2.1
  have hlt := C.2.2.2.2.2.2.2.2.2.2
  have hRr := C.2.2.2.2.2.2.2.2.2.1
  intro M t0 a1 a2 a3 z0 w1 r M' hf H locs ls ht0 hw1 hw hl
  unfold f_X6_addShower_70 at hf
  refine lv_iconst (v := 2) hx hb dX6_addShower_70 (by decide) ?_
  obtain ⟨v10, M11, e12, hf⟩ := cl_b2_e hf
  refine cr_Vi C hw (c_X6_fails hlt hw1 e12) cy_X6_fails vy_X6_fails ml_X6_313 (cl_lt hw1 (by decide)) (cl_e6 hw1) rfl rfl (As := [.int z0, .int 2]) rfl hl.1 rfl ⟨⟨Nat.le_of_ble_eq_true rfl, Nat.le_of_ble_eq_true rfl⟩, Nat.le_of_ble_eq_true rfl, Nat.le_of_ble_eq_true rfl, Nat.le_of_ble_eq_true rfl⟩ dX6_addShower_71 (fun H locs hw => ?_)
  refine lv_if_eq (tgt := 79) hx hb dX6_addShower_74 (by decide) (fun c13 => ?_) (fun c13 => ?_)
  · have hf := cl_yes c13 hf
    refine lv_aload_n hx hb dX6_addShower_79 rfl (lv_at hl 0 rfl) ?_
    obtain ⟨M14, e15, hf⟩ := cl_bind_e hf
    refine cr_Vv C hw (c_X6_record hlt ht0 e15) cy_X6_record vy_X6_record ml_X6_354 (cl_lt ht0 (by decide)) (cl_e6 ht0) rfl rfl (As := []) rfl hl.1 rfl ⟨⟨Nat.le_of_ble_eq_true rfl, Nat.le_of_ble_eq_true rfl⟩, Nat.le_of_ble_eq_true rfl, Nat.le_of_ble_eq_true rfl, Nat.le_of_ble_eq_true rfl⟩ dX6_addShower_80 (fun H locs hw => ?_)
    refine lv_aload_n hx hb dX6_addShower_83 rfl (lv_at hl 0 rfl) ?_
    refine lv_iload_n hx hb dX6_addShower_84 rfl (lv_at hl 1 rfl) ?_
    refine lv_iload_n hx hb dX6_addShower_85 rfl (lv_at hl 2 rfl) ?_
    refine lv_iload_n hx hb dX6_addShower_86 rfl (lv_at hl 3 rfl) ?_
    obtain ⟨v16, M17, e18, hf⟩ := cl_b2_e hf
    refine cr_Vi C hw (c_X6_doShower hlt ht0 e18) cy_X6_doShower vy_X6_doShower ml_X6_270 (cl_lt ht0 (by decide)) (cl_e6 ht0) rfl rfl (As := [.int a1, .int a2, .int a3]) rfl hl.1 rfl ⟨⟨Nat.le_of_ble_eq_true rfl, Nat.le_of_ble_eq_true rfl⟩, Nat.le_of_ble_eq_true rfl, Nat.le_of_ble_eq_true rfl, Nat.le_of_ble_eq_true rfl⟩ dX6_addShower_87 (fun H locs hw => ?_)
    obtain ⟨rfl, rfl⟩ := cl_pair hf
    exact cr_reti C hw dX6_addShower_90
  · have hf := cl_no c13 hf
    refine lv_iconst (v := 0) hx hb dX6_addShower_77 (by decide) ?_
    obtain ⟨rfl, rfl⟩ := cl_pair hf
    exact cr_reti C hw dX6_addShower_78
def f_X6_addShower_42 (M : cl_M) (t0 : Nat) (a1 : Int32) (a2 : Int32) (a3 : Int32) (z0 : Int32) : Option (Int32 × cl_M) := cl_b2 (f_X6_fails M t0 z0 1) (fun v5 M6 => if v5 = 0 then if 4 ≤ (M6 (t0 + 2) 5) then f_X6_addShower_70 M6 t0 a1 a2 a3 0 t0 else f_X6_addShower_70 M6 t0 a1 a2 a3 1 t0 else some (0, M6))
set_option maxHeartbeats 4000000 in
set_option maxRecDepth 100000 in
theorem k_X6_addShower_42 {p : Program} {l : Launch} {e : Env} {s : State} {m : MethodId} {args : Array Value} {below : List Frame} {meth : Method} {c : Code} {dd : cl_D} {b : Nat} (C : cl_C p l s m args meth c cX6_addShower RX6 5 (some .int) dd b) : ∀ (M : cl_M) (t0 : Nat) (a1 : Int32) (a2 : Int32) (a3 : Int32) (z0 : Int32) (r : Int32) (M' : cl_M), f_X6_addShower_42 M t0 a1 a2 a3 z0 = some (r, M') → ∀ (H : Heap) (locs : List Loc) (ls : Array Slot), cl_sh dd t0 = 6 → cl_H dd b M s H locs → lv_has ls 5 [(0, .ref (b + t0)), (1, .int a1), (2, .int a2), (3, .int a3)] → W p l e { frames := 2, cells := 0, slots := 0, locals := 42 } s m args below meth c H locs 0 0 (cl_Zi below args s dd b r M') (F0 m 42 ls [.int z0]) := by
  have hx := C.1
  have hb := C.2.1
  have hlt := C.2.2.2.2.2.2.2.2.2.2
  have hRr := C.2.2.2.2.2.2.2.2.2.1
  intro M t0 a1 a2 a3 z0 r M' hf H locs ls ht0 hw hl
  unfold f_X6_addShower_42 at hf
  refine lv_istore (lv' := [(4, .int z0), (0, .ref (b + t0)), (1, .int a1), (2, .int a2), (3, .int a3)]) hx hb dX6_addShower_42 hl (by decide) rfl (fun ls hl => ?_)
  refine lv_aload_n hx hb dX6_addShower_44 rfl (lv_at hl 1 rfl) ?_
  refine lv_iload hx hb dX6_addShower_45 (lv_at hl 0 rfl) ?_
  refine lv_iconst (v := 1) hx hb dX6_addShower_47 (by decide) ?_
  obtain ⟨v5, M6, e7, hf⟩ := cl_b2_e hf
  refine cr_Vi C hw (c_X6_fails hlt ht0 e7) cy_X6_fails vy_X6_fails ml_X6_313 (cl_lt ht0 (by decide)) (cl_e6 ht0) rfl rfl (As := [.int z0, .int 1]) rfl hl.1 rfl ⟨⟨Nat.le_of_ble_eq_true rfl, Nat.le_of_ble_eq_true rfl⟩, Nat.le_of_ble_eq_true rfl, Nat.le_of_ble_eq_true rfl, Nat.le_of_ble_eq_true rfl⟩ dX6_addShower_48 (fun H locs hw => ?_)
  refine lv_if_ne (tgt := 77) hx hb dX6_addShower_51 (by decide) (fun c8 => ?_) (fun c8 => ?_)
  · have hf := cl_no c8 hf
    refine lv_iconst (v := 0) hx hb dX6_addShower_77 (by decide) ?_
    obtain ⟨rfl, rfl⟩ := cl_pair hf
    exact cr_reti C hw dX6_addShower_78
  · have hf := cl_yes c8 hf
    refine lv_aload_n hx hb dX6_addShower_54 rfl (lv_at hl 1 rfl) ?_
    refine lv_aload_n hx hb dX6_addShower_55 rfl (lv_at hl 1 rfl) ?_
    refine fg_X6_17 C hw ht0 dX6_addShower_56 ?_
    refine lv_iconst (v := 5) hx hb dX6_addShower_59 (by decide) ?_
    refine cr_iald C hw (sh_6_5 ht0).1 (sh_6_5 ht0).2 (by decide) (k := 5) rfl dX6_addShower_60 ?_
    refine lv_iconst (v := 4) hx hb dX6_addShower_61 (by decide) ?_
    refine lv_icmp_ge (tgt := 69) hx hb dX6_addShower_62 (by decide) (fun c9 => ?_) (fun c9 => ?_)
    · have hf := cl_yes c9 hf
      refine lv_iconst (v := 0) hx hb dX6_addShower_69 (by decide) ?_
      exact k_X6_addShower_70 C M6 t0 a1 a2 a3 0 t0 _ _ hf _ _ _ ht0 ht0 hw (lv_sub hl [1, 2, 3, 4] rfl)
    · have hf := cl_no c9 hf
      refine lv_iconst (v := 1) hx hb dX6_addShower_65 (by decide) ?_
      refine lv_goto (tgt := 70) hx hb dX6_addShower_66 (by decide) ?_
      exact k_X6_addShower_70 C M6 t0 a1 a2 a3 1 t0 _ _ hf _ _ _ ht0 ht0 hw (lv_sub hl [1, 2, 3, 4] rfl)
def f_X6_addShower_41 (M : cl_M) (t0 : Nat) (a1 : Int32) (a2 : Int32) (a3 : Int32) : Option (Int32 × cl_M) := f_X6_addShower_42 M t0 a1 a2 a3 0
set_option maxHeartbeats 4000000 in
set_option maxRecDepth 100000 in
theorem k_X6_addShower_41 {p : Program} {l : Launch} {e : Env} {s : State} {m : MethodId} {args : Array Value} {below : List Frame} {meth : Method} {c : Code} {dd : cl_D} {b : Nat} (C : cl_C p l s m args meth c cX6_addShower RX6 5 (some .int) dd b) : ∀ (M : cl_M) (t0 : Nat) (a1 : Int32) (a2 : Int32) (a3 : Int32) (r : Int32) (M' : cl_M), f_X6_addShower_41 M t0 a1 a2 a3 = some (r, M') → ∀ (H : Heap) (locs : List Loc) (ls : Array Slot), cl_sh dd t0 = 6 → cl_H dd b M s H locs → lv_has ls 5 [(0, .ref (b + t0)), (1, .int a1), (2, .int a2), (3, .int a3)] → W p l e { frames := 2, cells := 0, slots := 0, locals := 42 } s m args below meth c H locs 0 0 (cl_Zi below args s dd b r M') (F0 m 41 ls []) := by
  have hx := C.1
  have hb := C.2.1
  have hlt := C.2.2.2.2.2.2.2.2.2.2
  have hRr := C.2.2.2.2.2.2.2.2.2.1
  intro M t0 a1 a2 a3 r M' hf H locs ls ht0 hw hl
  unfold f_X6_addShower_41 at hf
  refine lv_iconst (v := 0) hx hb dX6_addShower_41 (by decide) ?_
  exact k_X6_addShower_42 C M t0 a1 a2 a3 0 _ _ hf _ _ _ ht0 hw (lv_sub hl [0, 1, 2, 3] rfl)
def f_X6_addShower (M : cl_M) (t0 : Nat) (a1 : Int32) (a2 : Int32) (a3 : Int32) : Option (Int32 × cl_M) := cl_let (cl_ms M t0 4 0) (fun M1 => (f_X6_inRange M1 a1 0 9999).bind (fun v2 => if v2 = 0 then f_X6_addShower_41 M1 t0 a1 a2 a3 else (f_X6_inRange M1 a2 1 200).bind (fun v19 => if v19 = 0 then f_X6_addShower_41 M1 t0 a1 a2 a3 else (f_X6_inRange M1 a3 1 20).bind (fun v22 => if v22 = 0 then f_X6_addShower_41 M1 t0 a1 a2 a3 else f_X6_addShower_42 M1 t0 a1 a2 a3 1))))
set_option maxHeartbeats 4000000 in
set_option maxRecDepth 100000 in
theorem k_X6_addShower {p : Program} {l : Launch} {e : Env} {s : State} {m : MethodId} {args : Array Value} {below : List Frame} {meth : Method} {c : Code} {dd : cl_D} {b : Nat} (C : cl_C p l s m args meth c cX6_addShower RX6 5 (some .int) dd b) : ∀ (M : cl_M) (t0 : Nat) (a1 : Int32) (a2 : Int32) (a3 : Int32) (r : Int32) (M' : cl_M), f_X6_addShower M t0 a1 a2 a3 = some (r, M') → ∀ (H : Heap) (locs : List Loc) (ls : Array Slot), cl_sh dd t0 = 6 → cl_H dd b M s H locs → lv_has ls 5 [(0, .ref (b + t0)), (1, .int a1), (2, .int a2), (3, .int a3)] → W p l e { frames := 2, cells := 0, slots := 0, locals := 42 } s m args below meth c H locs 0 0 (cl_Zi below args s dd b r M') (F0 m 0 ls []) := by
  have hx := C.1
  have hb := C.2.1
  have hlt := C.2.2.2.2.2.2.2.2.2.2
  have hRr := C.2.2.2.2.2.2.2.2.2.1
  intro M t0 a1 a2 a3 r M' hf H locs ls ht0 hw hl
  unfold f_X6_addShower at hf
  refine lv_aload_n hx hb dX6_addShower_0 rfl (lv_at hl 0 rfl) ?_
  refine lv_iconst (v := 0) hx hb dX6_addShower_1 (by decide) ?_
  obtain ⟨M1, eM1, hf⟩ := cl_let_e hf
  refine fp_X6_60 C hw ht0 eM1 dX6_addShower_2 (fun H locs hw => ?_)
  refine lv_iload_n hx hb dX6_addShower_5 rfl (lv_at hl 1 rfl) ?_
  refine lv_iconst (v := 0) hx hb dX6_addShower_6 (by decide) ?_
  refine lv_sipush (v := 9999) hx hb dX6_addShower_7 (by decide) ?_
  obtain ⟨v2, e3, hf⟩ := cl_bind_e hf
  refine cr_Si C hw (c_X6_inRange hlt e3) cy_X6_inRange st_X6_inRange ml_X6_63 (As := [.int a1, .int 0, .int 9999]) rfl hl.1 rfl ⟨⟨Nat.le_of_ble_eq_true rfl, Nat.le_of_ble_eq_true rfl⟩, Nat.le_of_ble_eq_true rfl, Nat.le_of_ble_eq_true rfl, Nat.le_of_ble_eq_true rfl⟩ dX6_addShower_10 (fun H locs hw => ?_)
  refine lv_if_eq (tgt := 41) hx hb dX6_addShower_13 (by decide) (fun c4 => ?_) (fun c4 => ?_)
  · have hf := cl_yes c4 hf
    exact k_X6_addShower_41 C M1 t0 a1 a2 a3 _ _ hf _ _ _ ht0 hw (lv_sub hl [0, 1, 2, 3] rfl)
  · have hf := cl_no c4 hf
    refine lv_iload_n hx hb dX6_addShower_16 rfl (lv_at hl 2 rfl) ?_
    refine lv_iconst (v := 1) hx hb dX6_addShower_17 (by decide) ?_
    refine lv_sipush (v := 200) hx hb dX6_addShower_18 (by decide) ?_
    obtain ⟨v19, e20, hf⟩ := cl_bind_e hf
    refine cr_Si C hw (c_X6_inRange hlt e20) cy_X6_inRange st_X6_inRange ml_X6_63 (As := [.int a2, .int 1, .int 200]) rfl hl.1 rfl ⟨⟨Nat.le_of_ble_eq_true rfl, Nat.le_of_ble_eq_true rfl⟩, Nat.le_of_ble_eq_true rfl, Nat.le_of_ble_eq_true rfl, Nat.le_of_ble_eq_true rfl⟩ dX6_addShower_21 (fun H locs hw => ?_)
    refine lv_if_eq (tgt := 41) hx hb dX6_addShower_24 (by decide) (fun c21 => ?_) (fun c21 => ?_)
    · have hf := cl_yes c21 hf
      exact k_X6_addShower_41 C M1 t0 a1 a2 a3 _ _ hf _ _ _ ht0 hw (lv_sub hl [0, 1, 2, 3] rfl)
    · have hf := cl_no c21 hf
      refine lv_iload_n hx hb dX6_addShower_27 rfl (lv_at hl 3 rfl) ?_
      refine lv_iconst (v := 1) hx hb dX6_addShower_28 (by decide) ?_
      refine lv_bipush (v := 20) hx hb dX6_addShower_29 (by decide) ?_
      obtain ⟨v22, e23, hf⟩ := cl_bind_e hf
      refine cr_Si C hw (c_X6_inRange hlt e23) cy_X6_inRange st_X6_inRange ml_X6_63 (As := [.int a3, .int 1, .int 20]) rfl hl.1 rfl ⟨⟨Nat.le_of_ble_eq_true rfl, Nat.le_of_ble_eq_true rfl⟩, Nat.le_of_ble_eq_true rfl, Nat.le_of_ble_eq_true rfl, Nat.le_of_ble_eq_true rfl⟩ dX6_addShower_31 (fun H locs hw => ?_)
      refine lv_if_eq (tgt := 41) hx hb dX6_addShower_34 (by decide) (fun c24 => ?_) (fun c24 => ?_)
      · have hf := cl_yes c24 hf
        exact k_X6_addShower_41 C M1 t0 a1 a2 a3 _ _ hf _ _ _ ht0 hw (lv_sub hl [0, 1, 2, 3] rfl)
      · have hf := cl_no c24 hf
        refine lv_iconst (v := 1) hx hb dX6_addShower_37 (by decide) ?_
        refine lv_goto (tgt := 42) hx hb dX6_addShower_38 (by decide) ?_
        exact k_X6_addShower_42 C M1 t0 a1 a2 a3 1 _ _ hf _ _ _ ht0 hw (lv_sub hl [0, 1, 2, 3] rfl)
set_option maxRecDepth 100000 in
theorem c_X6_addShower {l : Launch} {dd : cl_D} {b : Nat} (hlt : l.stackTraces = false) {M : cl_M} {t0 : Nat} {a1 : Int32} {a2 : Int32} {a3 : Int32}  {r : Int32} {M' : cl_M} (ht0 : cl_sh dd t0 = 6) (h : f_X6_addShower M t0 a1 a2 a3 = some (r, M')) : cl_Mi l dd b yX6_addShower cX6_addShower 5 (some .int) 2 42 [.ref (b + t0), .int a1, .int a2, .int a3] M r M' :=
  cl_of hlt (by decide) (Nat.le_of_ble_eq_true rfl) (fun p e s m below meth c ls C hw hl => k_X6_addShower C M t0 a1 a2 a3 r M' h _ _ _ ht0 hw (lv_sub hl [0, 1, 2, 3] rfl))
theorem cy_X6_addShower : cl_cy yX6_addShower cX6_addShower 5 (some .int) 3 := ⟨in_ClothesLineModel, cd_X6_addShower, by decide +kernel, by decide +kernel, by decide +kernel⟩
theorem vy_X6_addShower : cl_vy yX6_addShower := ⟨im_X6_addShower, se_X6_addShower⟩
def f_X6_addSmoke_57 (M : cl_M) (t0 : Nat) (a1 : Int32) (a2 : Int32) (z0 : Int32) (w1 : Nat) : Option (Int32 × cl_M) := cl_b2 (f_X6_fails M w1 z0 2) (fun v10 M11 => if v10 = 0 then (f_X6_record M11 t0).bind (fun M14 => cl_b2 (f_X6_doSmoke M14 t0 a1 a2) (fun v16 M17 => some (v16, M17))) else some (0, M11))
set_option maxHeartbeats 4000000 in
set_option maxRecDepth 100000 in
theorem k_X6_addSmoke_57 {p : Program} {l : Launch} {e : Env} {s : State} {m : MethodId} {args : Array Value} {below : List Frame} {meth : Method} {c : Code} {dd : cl_D} {b : Nat} (C : cl_C p l s m args meth c cX6_addSmoke RX6 3 (some .int) dd b) : ∀ (M : cl_M) (t0 : Nat) (a1 : Int32) (a2 : Int32) (z0 : Int32) (w1 : Nat) (r : Int32) (M' : cl_M), f_X6_addSmoke_57 M t0 a1 a2 z0 w1 = some (r, M') → ∀ (H : Heap) (locs : List Loc) (ls : Array Slot), cl_sh dd t0 = 6 → cl_sh dd w1 = 6 → cl_H dd b M s H locs → lv_has ls 3 [(0, .ref (b + t0)), (1, .int a1), (2, .int a2)] → W p l e { frames := 2, cells := 0, slots := 0, locals := 42 } s m args below meth c H locs 0 0 (cl_Zi below args s dd b r M') (F0 m 57 ls [.int z0, .ref (b + w1)]) := by
  have hx := C.1
  have hb := C.2.1
  have hlt := C.2.2.2.2.2.2.2.2.2.2
  have hRr := C.2.2.2.2.2.2.2.2.2.1
  intro M t0 a1 a2 z0 w1 r M' hf H locs ls ht0 hw1 hw hl
  unfold f_X6_addSmoke_57 at hf
  refine lv_iconst (v := 2) hx hb dX6_addSmoke_57 (by decide) ?_
  obtain ⟨v10, M11, e12, hf⟩ := cl_b2_e hf
  refine cr_Vi C hw (c_X6_fails hlt hw1 e12) cy_X6_fails vy_X6_fails ml_X6_313 (cl_lt hw1 (by decide)) (cl_e6 hw1) rfl rfl (As := [.int z0, .int 2]) rfl hl.1 rfl ⟨⟨Nat.le_of_ble_eq_true rfl, Nat.le_of_ble_eq_true rfl⟩, Nat.le_of_ble_eq_true rfl, Nat.le_of_ble_eq_true rfl, Nat.le_of_ble_eq_true rfl⟩ dX6_addSmoke_58 (fun H locs hw => ?_)
  refine lv_if_eq (tgt := 66) hx hb dX6_addSmoke_61 (by decide) (fun c13 => ?_) (fun c13 => ?_)
  · have hf := cl_yes c13 hf
    refine lv_aload_n hx hb dX6_addSmoke_66 rfl (lv_at hl 0 rfl) ?_
    obtain ⟨M14, e15, hf⟩ := cl_bind_e hf
    refine cr_Vv C hw (c_X6_record hlt ht0 e15) cy_X6_record vy_X6_record ml_X6_354 (cl_lt ht0 (by decide)) (cl_e6 ht0) rfl rfl (As := []) rfl hl.1 rfl ⟨⟨Nat.le_of_ble_eq_true rfl, Nat.le_of_ble_eq_true rfl⟩, Nat.le_of_ble_eq_true rfl, Nat.le_of_ble_eq_true rfl, Nat.le_of_ble_eq_true rfl⟩ dX6_addSmoke_67 (fun H locs hw => ?_)
    refine lv_aload_n hx hb dX6_addSmoke_70 rfl (lv_at hl 0 rfl) ?_
    refine lv_iload_n hx hb dX6_addSmoke_71 rfl (lv_at hl 1 rfl) ?_
    refine lv_iload_n hx hb dX6_addSmoke_72 rfl (lv_at hl 2 rfl) ?_
    obtain ⟨v16, M17, e18, hf⟩ := cl_b2_e hf
    refine cr_Vi C hw (c_X6_doSmoke hlt ht0 e18) cy_X6_doSmoke vy_X6_doSmoke ml_X6_274 (cl_lt ht0 (by decide)) (cl_e6 ht0) rfl rfl (As := [.int a1, .int a2]) rfl hl.1 rfl ⟨⟨Nat.le_of_ble_eq_true rfl, Nat.le_of_ble_eq_true rfl⟩, Nat.le_of_ble_eq_true rfl, Nat.le_of_ble_eq_true rfl, Nat.le_of_ble_eq_true rfl⟩ dX6_addSmoke_73 (fun H locs hw => ?_)
    obtain ⟨rfl, rfl⟩ := cl_pair hf
    exact cr_reti C hw dX6_addSmoke_76
  · have hf := cl_no c13 hf
    refine lv_iconst (v := 0) hx hb dX6_addSmoke_64 (by decide) ?_
    obtain ⟨rfl, rfl⟩ := cl_pair hf
    exact cr_reti C hw dX6_addSmoke_65
def f_X6_addSmoke_33 (M : cl_M) (t0 : Nat) (a1 : Int32) (a2 : Int32) (z0 : Int32) (w1 : Nat) : Option (Int32 × cl_M) := cl_b2 (f_X6_fails M w1 z0 1) (fun v5 M6 => if v5 = 0 then if 4 ≤ (M6 (t0 + 2) 6) then f_X6_addSmoke_57 M6 t0 a1 a2 0 t0 else f_X6_addSmoke_57 M6 t0 a1 a2 1 t0 else some (0, M6))
set_option maxHeartbeats 4000000 in
set_option maxRecDepth 100000 in
theorem k_X6_addSmoke_33 {p : Program} {l : Launch} {e : Env} {s : State} {m : MethodId} {args : Array Value} {below : List Frame} {meth : Method} {c : Code} {dd : cl_D} {b : Nat} (C : cl_C p l s m args meth c cX6_addSmoke RX6 3 (some .int) dd b) : ∀ (M : cl_M) (t0 : Nat) (a1 : Int32) (a2 : Int32) (z0 : Int32) (w1 : Nat) (r : Int32) (M' : cl_M), f_X6_addSmoke_33 M t0 a1 a2 z0 w1 = some (r, M') → ∀ (H : Heap) (locs : List Loc) (ls : Array Slot), cl_sh dd t0 = 6 → cl_sh dd w1 = 6 → cl_H dd b M s H locs → lv_has ls 3 [(0, .ref (b + t0)), (1, .int a1), (2, .int a2)] → W p l e { frames := 2, cells := 0, slots := 0, locals := 42 } s m args below meth c H locs 0 0 (cl_Zi below args s dd b r M') (F0 m 33 ls [.int z0, .ref (b + w1)]) := by
  have hx := C.1
  have hb := C.2.1
  have hlt := C.2.2.2.2.2.2.2.2.2.2
  have hRr := C.2.2.2.2.2.2.2.2.2.1
  intro M t0 a1 a2 z0 w1 r M' hf H locs ls ht0 hw1 hw hl
  unfold f_X6_addSmoke_33 at hf
  refine lv_iconst (v := 1) hx hb dX6_addSmoke_33 (by decide) ?_
  obtain ⟨v5, M6, e7, hf⟩ := cl_b2_e hf
  refine cr_Vi C hw (c_X6_fails hlt hw1 e7) cy_X6_fails vy_X6_fails ml_X6_313 (cl_lt hw1 (by decide)) (cl_e6 hw1) rfl rfl (As := [.int z0, .int 1]) rfl hl.1 rfl ⟨⟨Nat.le_of_ble_eq_true rfl, Nat.le_of_ble_eq_true rfl⟩, Nat.le_of_ble_eq_true rfl, Nat.le_of_ble_eq_true rfl, Nat.le_of_ble_eq_true rfl⟩ dX6_addSmoke_34 (fun H locs hw => ?_)
  refine lv_if_ne (tgt := 64) hx hb dX6_addSmoke_37 (by decide) (fun c8 => ?_) (fun c8 => ?_)
  · have hf := cl_no c8 hf
    refine lv_iconst (v := 0) hx hb dX6_addSmoke_64 (by decide) ?_
    obtain ⟨rfl, rfl⟩ := cl_pair hf
    exact cr_reti C hw dX6_addSmoke_65
  · have hf := cl_yes c8 hf
    refine lv_aload_n hx hb dX6_addSmoke_40 rfl (lv_at hl 0 rfl) ?_
    refine lv_aload_n hx hb dX6_addSmoke_41 rfl (lv_at hl 0 rfl) ?_
    refine fg_X6_17 C hw ht0 dX6_addSmoke_42 ?_
    refine lv_bipush (v := 6) hx hb dX6_addSmoke_45 (by decide) ?_
    refine cr_iald C hw (sh_6_5 ht0).1 (sh_6_5 ht0).2 (by decide) (k := 6) rfl dX6_addSmoke_47 ?_
    refine lv_iconst (v := 4) hx hb dX6_addSmoke_48 (by decide) ?_
    refine lv_icmp_ge (tgt := 56) hx hb dX6_addSmoke_49 (by decide) (fun c9 => ?_) (fun c9 => ?_)
    · have hf := cl_yes c9 hf
      refine lv_iconst (v := 0) hx hb dX6_addSmoke_56 (by decide) ?_
      exact k_X6_addSmoke_57 C M6 t0 a1 a2 0 t0 _ _ hf _ _ _ ht0 ht0 hw (lv_sub hl [0, 1, 2] rfl)
    · have hf := cl_no c9 hf
      refine lv_iconst (v := 1) hx hb dX6_addSmoke_52 (by decide) ?_
      refine lv_goto (tgt := 57) hx hb dX6_addSmoke_53 (by decide) ?_
      exact k_X6_addSmoke_57 C M6 t0 a1 a2 1 t0 _ _ hf _ _ _ ht0 ht0 hw (lv_sub hl [0, 1, 2] rfl)
def f_X6_addSmoke_32 (M : cl_M) (t0 : Nat) (a1 : Int32) (a2 : Int32) (w0 : Nat) : Option (Int32 × cl_M) := f_X6_addSmoke_33 M t0 a1 a2 0 w0
set_option maxHeartbeats 4000000 in
set_option maxRecDepth 100000 in
theorem k_X6_addSmoke_32 {p : Program} {l : Launch} {e : Env} {s : State} {m : MethodId} {args : Array Value} {below : List Frame} {meth : Method} {c : Code} {dd : cl_D} {b : Nat} (C : cl_C p l s m args meth c cX6_addSmoke RX6 3 (some .int) dd b) : ∀ (M : cl_M) (t0 : Nat) (a1 : Int32) (a2 : Int32) (w0 : Nat) (r : Int32) (M' : cl_M), f_X6_addSmoke_32 M t0 a1 a2 w0 = some (r, M') → ∀ (H : Heap) (locs : List Loc) (ls : Array Slot), cl_sh dd t0 = 6 → cl_sh dd w0 = 6 → cl_H dd b M s H locs → lv_has ls 3 [(0, .ref (b + t0)), (1, .int a1), (2, .int a2)] → W p l e { frames := 2, cells := 0, slots := 0, locals := 42 } s m args below meth c H locs 0 0 (cl_Zi below args s dd b r M') (F0 m 32 ls [.ref (b + w0)]) := by
  have hx := C.1
  have hb := C.2.1
  have hlt := C.2.2.2.2.2.2.2.2.2.2
  have hRr := C.2.2.2.2.2.2.2.2.2.1
  intro M t0 a1 a2 w0 r M' hf H locs ls ht0 hw0 hw hl
  unfold f_X6_addSmoke_32 at hf
  refine lv_iconst (v := 0) hx hb dX6_addSmoke_32 (by decide) ?_
  exact k_X6_addSmoke_33 C M t0 a1 a2 0 w0 _ _ hf _ _ _ ht0 hw0 hw (lv_sub hl [0, 1, 2] rfl)
def f_X6_addSmoke (M : cl_M) (t0 : Nat) (a1 : Int32) (a2 : Int32) : Option (Int32 × cl_M) := cl_let (cl_ms M t0 4 0) (fun M1 => (f_X6_inRange M1 a1 0 9999).bind (fun v2 => if v2 = 0 then f_X6_addSmoke_32 M1 t0 a1 a2 t0 else (f_X6_inRange M1 a2 a1 9999).bind (fun v19 => if v19 = 0 then f_X6_addSmoke_32 M1 t0 a1 a2 t0 else f_X6_addSmoke_33 M1 t0 a1 a2 1 t0)))
set_option maxHeartbeats 4000000 in
set_option maxRecDepth 100000 in
theorem k_X6_addSmoke {p : Program} {l : Launch} {e : Env} {s : State} {m : MethodId} {args : Array Value} {below : List Frame} {meth : Method} {c : Code} {dd : cl_D} {b : Nat} (C : cl_C p l s m args meth c cX6_addSmoke RX6 3 (some .int) dd b) : ∀ (M : cl_M) (t0 : Nat) (a1 : Int32) (a2 : Int32) (r : Int32) (M' : cl_M), f_X6_addSmoke M t0 a1 a2 = some (r, M') → ∀ (H : Heap) (locs : List Loc) (ls : Array Slot), cl_sh dd t0 = 6 → cl_H dd b M s H locs → lv_has ls 3 [(0, .ref (b + t0)), (1, .int a1), (2, .int a2)] → W p l e { frames := 2, cells := 0, slots := 0, locals := 42 } s m args below meth c H locs 0 0 (cl_Zi below args s dd b r M') (F0 m 0 ls []) := by
  have hx := C.1
  have hb := C.2.1
  have hlt := C.2.2.2.2.2.2.2.2.2.2
  have hRr := C.2.2.2.2.2.2.2.2.2.1
  intro M t0 a1 a2 r M' hf H locs ls ht0 hw hl
  unfold f_X6_addSmoke at hf
  refine lv_aload_n hx hb dX6_addSmoke_0 rfl (lv_at hl 0 rfl) ?_
  refine lv_iconst (v := 0) hx hb dX6_addSmoke_1 (by decide) ?_
  obtain ⟨M1, eM1, hf⟩ := cl_let_e hf
  refine fp_X6_60 C hw ht0 eM1 dX6_addSmoke_2 (fun H locs hw => ?_)
  refine lv_aload_n hx hb dX6_addSmoke_5 rfl (lv_at hl 0 rfl) ?_
  refine lv_iload_n hx hb dX6_addSmoke_6 rfl (lv_at hl 1 rfl) ?_
  refine lv_iconst (v := 0) hx hb dX6_addSmoke_7 (by decide) ?_
  refine lv_sipush (v := 9999) hx hb dX6_addSmoke_8 (by decide) ?_
  obtain ⟨v2, e3, hf⟩ := cl_bind_e hf
  refine cr_Si C hw (c_X6_inRange hlt e3) cy_X6_inRange st_X6_inRange ml_X6_63 (As := [.int a1, .int 0, .int 9999]) rfl hl.1 rfl ⟨⟨Nat.le_of_ble_eq_true rfl, Nat.le_of_ble_eq_true rfl⟩, Nat.le_of_ble_eq_true rfl, Nat.le_of_ble_eq_true rfl, Nat.le_of_ble_eq_true rfl⟩ dX6_addSmoke_11 (fun H locs hw => ?_)
  refine lv_if_eq (tgt := 32) hx hb dX6_addSmoke_14 (by decide) (fun c4 => ?_) (fun c4 => ?_)
  · have hf := cl_yes c4 hf
    exact k_X6_addSmoke_32 C M1 t0 a1 a2 t0 _ _ hf _ _ _ ht0 ht0 hw (lv_sub hl [0, 1, 2] rfl)
  · have hf := cl_no c4 hf
    refine lv_iload_n hx hb dX6_addSmoke_17 rfl (lv_at hl 2 rfl) ?_
    refine lv_iload_n hx hb dX6_addSmoke_18 rfl (lv_at hl 1 rfl) ?_
    refine lv_sipush (v := 9999) hx hb dX6_addSmoke_19 (by decide) ?_
    obtain ⟨v19, e20, hf⟩ := cl_bind_e hf
    refine cr_Si C hw (c_X6_inRange hlt e20) cy_X6_inRange st_X6_inRange ml_X6_63 (As := [.int a2, .int a1, .int 9999]) rfl hl.1 rfl ⟨⟨Nat.le_of_ble_eq_true rfl, Nat.le_of_ble_eq_true rfl⟩, Nat.le_of_ble_eq_true rfl, Nat.le_of_ble_eq_true rfl, Nat.le_of_ble_eq_true rfl⟩ dX6_addSmoke_22 (fun H locs hw => ?_)
    refine lv_if_eq (tgt := 32) hx hb dX6_addSmoke_25 (by decide) (fun c21 => ?_) (fun c21 => ?_)
    · have hf := cl_yes c21 hf
      exact k_X6_addSmoke_32 C M1 t0 a1 a2 t0 _ _ hf _ _ _ ht0 ht0 hw (lv_sub hl [0, 1, 2] rfl)
    · have hf := cl_no c21 hf
      refine lv_iconst (v := 1) hx hb dX6_addSmoke_28 (by decide) ?_
      refine lv_goto (tgt := 33) hx hb dX6_addSmoke_29 (by decide) ?_
      exact k_X6_addSmoke_33 C M1 t0 a1 a2 1 t0 _ _ hf _ _ _ ht0 ht0 hw (lv_sub hl [0, 1, 2] rfl)
set_option maxRecDepth 100000 in
theorem c_X6_addSmoke {l : Launch} {dd : cl_D} {b : Nat} (hlt : l.stackTraces = false) {M : cl_M} {t0 : Nat} {a1 : Int32} {a2 : Int32}  {r : Int32} {M' : cl_M} (ht0 : cl_sh dd t0 = 6) (h : f_X6_addSmoke M t0 a1 a2 = some (r, M')) : cl_Mi l dd b yX6_addSmoke cX6_addSmoke 3 (some .int) 2 42 [.ref (b + t0), .int a1, .int a2] M r M' :=
  cl_of hlt (by decide) (Nat.le_of_ble_eq_true rfl) (fun p e s m below meth c ls C hw hl => k_X6_addSmoke C M t0 a1 a2 r M' h _ _ _ ht0 hw (lv_sub hl [0, 1, 2] rfl))
theorem cy_X6_addSmoke : cl_cy yX6_addSmoke cX6_addSmoke 3 (some .int) 2 := ⟨in_ClothesLineModel, cd_X6_addSmoke, by decide +kernel, by decide +kernel, by decide +kernel⟩
theorem vy_X6_addSmoke : cl_vy yX6_addSmoke := ⟨im_X6_addSmoke, se_X6_addSmoke⟩
def f_X6_setWind (M : cl_M) (t0 : Nat) (a1 : Int32) (a2 : Int32) : Option (Int32 × cl_M) := cl_let (cl_ms M t0 4 0) (fun M1 => (f_X6_inRange M1 a1 0 ((M1 (t0 + 2) 4) - 1)).bind (fun v2 => cl_b2 (f_X6_fails M1 t0 v2 1) (fun v4 M5 => if v4 = 0 then (f_X6_inRange M5 a2 0 5).bind (fun v8 => cl_b2 (f_X6_fails M5 t0 v8 2) (fun v10 M11 => if v10 = 0 then (f_X6_record M11 t0).bind (fun M14 => cl_b2 (f_X6_doWind M14 t0 a1 a2) (fun v16 M17 => some (v16, M17))) else some (0, M11))) else some (0, M5))))
set_option maxHeartbeats 4000000 in
set_option maxRecDepth 100000 in
theorem k_X6_setWind {p : Program} {l : Launch} {e : Env} {s : State} {m : MethodId} {args : Array Value} {below : List Frame} {meth : Method} {c : Code} {dd : cl_D} {b : Nat} (C : cl_C p l s m args meth c cX6_setWind RX6 3 (some .int) dd b) : ∀ (M : cl_M) (t0 : Nat) (a1 : Int32) (a2 : Int32) (r : Int32) (M' : cl_M), f_X6_setWind M t0 a1 a2 = some (r, M') → ∀ (H : Heap) (locs : List Loc) (ls : Array Slot), cl_sh dd t0 = 6 → cl_H dd b M s H locs → lv_has ls 3 [(0, .ref (b + t0)), (1, .int a1), (2, .int a2)] → W p l e { frames := 2, cells := 0, slots := 0, locals := 42 } s m args below meth c H locs 0 0 (cl_Zi below args s dd b r M') (F0 m 0 ls []) := by
  have hx := C.1
  have hb := C.2.1
  have hlt := C.2.2.2.2.2.2.2.2.2.2
  have hRr := C.2.2.2.2.2.2.2.2.2.1
  intro M t0 a1 a2 r M' hf H locs ls ht0 hw hl
  unfold f_X6_setWind at hf
  refine lv_aload_n hx hb dX6_setWind_0 rfl (lv_at hl 0 rfl) ?_
  refine lv_iconst (v := 0) hx hb dX6_setWind_1 (by decide) ?_
  obtain ⟨M1, eM1, hf⟩ := cl_let_e hf
  refine fp_X6_60 C hw ht0 eM1 dX6_setWind_2 (fun H locs hw => ?_)
  refine lv_aload_n hx hb dX6_setWind_5 rfl (lv_at hl 0 rfl) ?_
  refine lv_iload_n hx hb dX6_setWind_6 rfl (lv_at hl 1 rfl) ?_
  refine lv_iconst (v := 0) hx hb dX6_setWind_7 (by decide) ?_
  refine lv_aload_n hx hb dX6_setWind_8 rfl (lv_at hl 0 rfl) ?_
  refine fg_X6_17 C hw ht0 dX6_setWind_9 ?_
  refine lv_iconst (v := 4) hx hb dX6_setWind_12 (by decide) ?_
  refine cr_iald C hw (sh_6_5 ht0).1 (sh_6_5 ht0).2 (by decide) (k := 4) rfl dX6_setWind_13 ?_
  refine lv_iconst (v := 1) hx hb dX6_setWind_14 (by decide) ?_
  refine lv_isub hx hb dX6_setWind_15 ?_
  obtain ⟨v2, e3, hf⟩ := cl_bind_e hf
  refine cr_Si C hw (c_X6_inRange hlt e3) cy_X6_inRange st_X6_inRange ml_X6_63 (As := [.int a1, .int 0, .int ((M1 (t0 + 2) 4) - 1)]) rfl hl.1 rfl ⟨⟨Nat.le_of_ble_eq_true rfl, Nat.le_of_ble_eq_true rfl⟩, Nat.le_of_ble_eq_true rfl, Nat.le_of_ble_eq_true rfl, Nat.le_of_ble_eq_true rfl⟩ dX6_setWind_16 (fun H locs hw => ?_)
  refine lv_iconst (v := 1) hx hb dX6_setWind_19 (by decide) ?_
  obtain ⟨v4, M5, e6, hf⟩ := cl_b2_e hf
  refine cr_Vi C hw (c_X6_fails hlt ht0 e6) cy_X6_fails vy_X6_fails ml_X6_313 (cl_lt ht0 (by decide)) (cl_e6 ht0) rfl rfl (As := [.int v2, .int 1]) rfl hl.1 rfl ⟨⟨Nat.le_of_ble_eq_true rfl, Nat.le_of_ble_eq_true rfl⟩, Nat.le_of_ble_eq_true rfl, Nat.le_of_ble_eq_true rfl, Nat.le_of_ble_eq_true rfl⟩ dX6_setWind_20 (fun H locs hw => ?_)
  refine lv_if_ne (tgt := 40) hx hb dX6_setWind_23 (by decide) (fun c7 => ?_) (fun c7 => ?_)
  · have hf := cl_no c7 hf
    refine lv_iconst (v := 0) hx hb dX6_setWind_40 (by decide) ?_
    obtain ⟨rfl, rfl⟩ := cl_pair hf
    exact cr_reti C hw dX6_setWind_41
  · have hf := cl_yes c7 hf
    refine lv_aload_n hx hb dX6_setWind_26 rfl (lv_at hl 0 rfl) ?_
    refine lv_iload_n hx hb dX6_setWind_27 rfl (lv_at hl 2 rfl) ?_
    refine lv_iconst (v := 0) hx hb dX6_setWind_28 (by decide) ?_
    refine lv_iconst (v := 5) hx hb dX6_setWind_29 (by decide) ?_
    obtain ⟨v8, e9, hf⟩ := cl_bind_e hf
    refine cr_Si C hw (c_X6_inRange hlt e9) cy_X6_inRange st_X6_inRange ml_X6_63 (As := [.int a2, .int 0, .int 5]) rfl hl.1 rfl ⟨⟨Nat.le_of_ble_eq_true rfl, Nat.le_of_ble_eq_true rfl⟩, Nat.le_of_ble_eq_true rfl, Nat.le_of_ble_eq_true rfl, Nat.le_of_ble_eq_true rfl⟩ dX6_setWind_30 (fun H locs hw => ?_)
    refine lv_iconst (v := 2) hx hb dX6_setWind_33 (by decide) ?_
    obtain ⟨v10, M11, e12, hf⟩ := cl_b2_e hf
    refine cr_Vi C hw (c_X6_fails hlt ht0 e12) cy_X6_fails vy_X6_fails ml_X6_313 (cl_lt ht0 (by decide)) (cl_e6 ht0) rfl rfl (As := [.int v8, .int 2]) rfl hl.1 rfl ⟨⟨Nat.le_of_ble_eq_true rfl, Nat.le_of_ble_eq_true rfl⟩, Nat.le_of_ble_eq_true rfl, Nat.le_of_ble_eq_true rfl, Nat.le_of_ble_eq_true rfl⟩ dX6_setWind_34 (fun H locs hw => ?_)
    refine lv_if_eq (tgt := 42) hx hb dX6_setWind_37 (by decide) (fun c13 => ?_) (fun c13 => ?_)
    · have hf := cl_yes c13 hf
      refine lv_aload_n hx hb dX6_setWind_42 rfl (lv_at hl 0 rfl) ?_
      obtain ⟨M14, e15, hf⟩ := cl_bind_e hf
      refine cr_Vv C hw (c_X6_record hlt ht0 e15) cy_X6_record vy_X6_record ml_X6_354 (cl_lt ht0 (by decide)) (cl_e6 ht0) rfl rfl (As := []) rfl hl.1 rfl ⟨⟨Nat.le_of_ble_eq_true rfl, Nat.le_of_ble_eq_true rfl⟩, Nat.le_of_ble_eq_true rfl, Nat.le_of_ble_eq_true rfl, Nat.le_of_ble_eq_true rfl⟩ dX6_setWind_43 (fun H locs hw => ?_)
      refine lv_aload_n hx hb dX6_setWind_46 rfl (lv_at hl 0 rfl) ?_
      refine lv_iload_n hx hb dX6_setWind_47 rfl (lv_at hl 1 rfl) ?_
      refine lv_iload_n hx hb dX6_setWind_48 rfl (lv_at hl 2 rfl) ?_
      obtain ⟨v16, M17, e18, hf⟩ := cl_b2_e hf
      refine cr_Vi C hw (c_X6_doWind hlt ht0 e18) cy_X6_doWind vy_X6_doWind ml_X6_277 (cl_lt ht0 (by decide)) (cl_e6 ht0) rfl rfl (As := [.int a1, .int a2]) rfl hl.1 rfl ⟨⟨Nat.le_of_ble_eq_true rfl, Nat.le_of_ble_eq_true rfl⟩, Nat.le_of_ble_eq_true rfl, Nat.le_of_ble_eq_true rfl, Nat.le_of_ble_eq_true rfl⟩ dX6_setWind_49 (fun H locs hw => ?_)
      obtain ⟨rfl, rfl⟩ := cl_pair hf
      exact cr_reti C hw dX6_setWind_52
    · have hf := cl_no c13 hf
      refine lv_iconst (v := 0) hx hb dX6_setWind_40 (by decide) ?_
      obtain ⟨rfl, rfl⟩ := cl_pair hf
      exact cr_reti C hw dX6_setWind_41
set_option maxRecDepth 100000 in
theorem c_X6_setWind {l : Launch} {dd : cl_D} {b : Nat} (hlt : l.stackTraces = false) {M : cl_M} {t0 : Nat} {a1 : Int32} {a2 : Int32}  {r : Int32} {M' : cl_M} (ht0 : cl_sh dd t0 = 6) (h : f_X6_setWind M t0 a1 a2 = some (r, M')) : cl_Mi l dd b yX6_setWind cX6_setWind 3 (some .int) 2 42 [.ref (b + t0), .int a1, .int a2] M r M' :=
  cl_of hlt (by decide) (Nat.le_of_ble_eq_true rfl) (fun p e s m below meth c ls C hw hl => k_X6_setWind C M t0 a1 a2 r M' h _ _ _ ht0 hw (lv_sub hl [0, 1, 2] rfl))
theorem cy_X6_setWind : cl_cy yX6_setWind cX6_setWind 3 (some .int) 2 := ⟨in_ClothesLineModel, cd_X6_setWind, by decide +kernel, by decide +kernel, by decide +kernel⟩
theorem vy_X6_setWind : cl_vy yX6_setWind := ⟨im_X6_setWind, se_X6_setWind⟩
def f_X6_passMinutes (M : cl_M) (t0 : Nat) (a1 : Int32) : Option (Int32 × cl_M) := cl_let (cl_ms M t0 4 0) (fun M1 => (f_X6_inRange M1 a1 1 200).bind (fun v2 => cl_b2 (f_X6_fails M1 t0 v2 1) (fun v4 M5 => if v4 = 0 then (f_X6_record M5 t0).bind (fun M8 => cl_b2 (f_X6_passAll M8 t0 a1) (fun v10 M11 => some (v10, M11))) else some (0, M5))))
set_option maxHeartbeats 4000000 in
set_option maxRecDepth 100000 in
theorem k_X6_passMinutes {p : Program} {l : Launch} {e : Env} {s : State} {m : MethodId} {args : Array Value} {below : List Frame} {meth : Method} {c : Code} {dd : cl_D} {b : Nat} (C : cl_C p l s m args meth c cX6_passMinutes RX6 2 (some .int) dd b) : ∀ (M : cl_M) (t0 : Nat) (a1 : Int32) (r : Int32) (M' : cl_M), f_X6_passMinutes M t0 a1 = some (r, M') → ∀ (H : Heap) (locs : List Loc) (ls : Array Slot), cl_sh dd t0 = 6 → cl_H dd b M s H locs → lv_has ls 2 [(0, .ref (b + t0)), (1, .int a1)] → W p l e { frames := 6, cells := 0, slots := 0, locals := 138 } s m args below meth c H locs 0 0 (cl_Zi below args s dd b r M') (F0 m 0 ls []) := by
  have hx := C.1
  have hb := C.2.1
  have hlt := C.2.2.2.2.2.2.2.2.2.2
  have hRr := C.2.2.2.2.2.2.2.2.2.1
  intro M t0 a1 r M' hf H locs ls ht0 hw hl
  unfold f_X6_passMinutes at hf
  refine lv_aload_n hx hb dX6_passMinutes_0 rfl (lv_at hl 0 rfl) ?_
  refine lv_iconst (v := 0) hx hb dX6_passMinutes_1 (by decide) ?_
  obtain ⟨M1, eM1, hf⟩ := cl_let_e hf
  refine fp_X6_60 C hw ht0 eM1 dX6_passMinutes_2 (fun H locs hw => ?_)
  refine lv_aload_n hx hb dX6_passMinutes_5 rfl (lv_at hl 0 rfl) ?_
  refine lv_iload_n hx hb dX6_passMinutes_6 rfl (lv_at hl 1 rfl) ?_
  refine lv_iconst (v := 1) hx hb dX6_passMinutes_7 (by decide) ?_
  refine lv_sipush (v := 200) hx hb dX6_passMinutes_8 (by decide) ?_
  obtain ⟨v2, e3, hf⟩ := cl_bind_e hf
  refine cr_Si C hw (c_X6_inRange hlt e3) cy_X6_inRange st_X6_inRange ml_X6_63 (As := [.int a1, .int 1, .int 200]) rfl hl.1 rfl ⟨⟨Nat.le_of_ble_eq_true rfl, Nat.le_of_ble_eq_true rfl⟩, Nat.le_of_ble_eq_true rfl, Nat.le_of_ble_eq_true rfl, Nat.le_of_ble_eq_true rfl⟩ dX6_passMinutes_11 (fun H locs hw => ?_)
  refine lv_iconst (v := 1) hx hb dX6_passMinutes_14 (by decide) ?_
  obtain ⟨v4, M5, e6, hf⟩ := cl_b2_e hf
  refine cr_Vi C hw (c_X6_fails hlt ht0 e6) cy_X6_fails vy_X6_fails ml_X6_313 (cl_lt ht0 (by decide)) (cl_e6 ht0) rfl rfl (As := [.int v2, .int 1]) rfl hl.1 rfl ⟨⟨Nat.le_of_ble_eq_true rfl, Nat.le_of_ble_eq_true rfl⟩, Nat.le_of_ble_eq_true rfl, Nat.le_of_ble_eq_true rfl, Nat.le_of_ble_eq_true rfl⟩ dX6_passMinutes_15 (fun H locs hw => ?_)
  refine lv_if_eq (tgt := 23) hx hb dX6_passMinutes_18 (by decide) (fun c7 => ?_) (fun c7 => ?_)
  · have hf := cl_yes c7 hf
    refine lv_aload_n hx hb dX6_passMinutes_23 rfl (lv_at hl 0 rfl) ?_
    obtain ⟨M8, e9, hf⟩ := cl_bind_e hf
    refine cr_Vv C hw (c_X6_record hlt ht0 e9) cy_X6_record vy_X6_record ml_X6_354 (cl_lt ht0 (by decide)) (cl_e6 ht0) rfl rfl (As := []) rfl hl.1 rfl ⟨⟨Nat.le_of_ble_eq_true rfl, Nat.le_of_ble_eq_true rfl⟩, Nat.le_of_ble_eq_true rfl, Nat.le_of_ble_eq_true rfl, Nat.le_of_ble_eq_true rfl⟩ dX6_passMinutes_24 (fun H locs hw => ?_)
    refine lv_aload_n hx hb dX6_passMinutes_27 rfl (lv_at hl 0 rfl) ?_
    refine lv_iload_n hx hb dX6_passMinutes_28 rfl (lv_at hl 1 rfl) ?_
    obtain ⟨v10, M11, e12, hf⟩ := cl_b2_e hf
    refine cr_Vi C hw (c_X6_passAll hlt ht0 e12) cy_X6_passAll vy_X6_passAll ml_X6_280 (cl_lt ht0 (by decide)) (cl_e6 ht0) rfl rfl (As := [.int a1]) rfl hl.1 rfl ⟨⟨Nat.le_of_ble_eq_true rfl, Nat.le_of_ble_eq_true rfl⟩, Nat.le_of_ble_eq_true rfl, Nat.le_of_ble_eq_true rfl, Nat.le_of_ble_eq_true rfl⟩ dX6_passMinutes_29 (fun H locs hw => ?_)
    obtain ⟨rfl, rfl⟩ := cl_pair hf
    exact cr_reti C hw dX6_passMinutes_32
  · have hf := cl_no c7 hf
    refine lv_iconst (v := 0) hx hb dX6_passMinutes_21 (by decide) ?_
    obtain ⟨rfl, rfl⟩ := cl_pair hf
    exact cr_reti C hw dX6_passMinutes_22
set_option maxRecDepth 100000 in
theorem c_X6_passMinutes {l : Launch} {dd : cl_D} {b : Nat} (hlt : l.stackTraces = false) {M : cl_M} {t0 : Nat} {a1 : Int32}  {r : Int32} {M' : cl_M} (ht0 : cl_sh dd t0 = 6) (h : f_X6_passMinutes M t0 a1 = some (r, M')) : cl_Mi l dd b yX6_passMinutes cX6_passMinutes 2 (some .int) 6 138 [.ref (b + t0), .int a1] M r M' :=
  cl_of hlt (by decide) (Nat.le_of_ble_eq_true rfl) (fun p e s m below meth c ls C hw hl => k_X6_passMinutes C M t0 a1 r M' h _ _ _ ht0 hw (lv_sub hl [0, 1] rfl))
theorem cy_X6_passMinutes : cl_cy yX6_passMinutes cX6_passMinutes 2 (some .int) 1 := ⟨in_ClothesLineModel, cd_X6_passMinutes, by decide +kernel, by decide +kernel, by decide +kernel⟩
theorem vy_X6_passMinutes : cl_vy yX6_passMinutes := ⟨im_X6_passMinutes, se_X6_passMinutes⟩
def f_X6_undo_39 : Nat → cl_M → Nat → Int32 → Option (Int32 × cl_M)
  | 0, _, _, _ => none
  | k + 1, M, t0, a1 => if 149 ≤ a1 then some (M t0 9, M) else if cl_inb ((149 * (M t0 9)) + a1) 1192 = true then if cl_inb a1 149 = true then cl_let (cl_ms M (t0 + 2) (a1).toNatClampNeg (M (t0 + 5) (((149 * (M t0 9)) + a1).toNatClampNeg))) (fun M11 => cl_let (a1 + 1) (fun v12 => f_X6_undo_39 k M11 t0 v12)) else none else none
set_option maxHeartbeats 4000000 in
set_option maxRecDepth 100000 in
theorem k_X6_undo_39 {p : Program} {l : Launch} {e : Env} {s : State} {m : MethodId} {args : Array Value} {below : List Frame} {meth : Method} {c : Code} {dd : cl_D} {b : Nat} (C : cl_C p l s m args meth c cX6_undo RX6 2 (some .int) dd b) : ∀ (k : Nat), ∀ (M : cl_M) (t0 : Nat) (a1 : Int32) (r : Int32) (M' : cl_M), f_X6_undo_39 k M t0 a1 = some (r, M') → ∀ (H : Heap) (locs : List Loc) (ls : Array Slot), cl_sh dd t0 = 6 → cl_H dd b M s H locs → lv_has ls 2 [(0, .ref (b + t0)), (1, .int a1)] → W p l e { frames := 1, cells := 0, slots := 0, locals := 22 } s m args below meth c H locs 0 0 (cl_Zi below args s dd b r M') (F0 m 39 ls []) := by
  have hx := C.1
  have hb := C.2.1
  have hlt := C.2.2.2.2.2.2.2.2.2.2
  have hRr := C.2.2.2.2.2.2.2.2.2.1
  intro k
  induction k with
  | zero =>
    intro M t0 a1 r M' hf H locs ls ht0 hw hl
    rw [f_X6_undo_39] at hf
    cases hf
  | succ k ih =>
    intro M t0 a1 r M' hf H locs ls ht0 hw hl
    rw [f_X6_undo_39] at hf
    refine lv_iload_n hx hb dX6_undo_39 rfl (lv_at hl 1 rfl) ?_
    refine lv_sipush (v := 149) hx hb dX6_undo_40 (by decide) ?_
    refine lv_icmp_ge (tgt := 73) hx hb dX6_undo_43 (by decide) (fun c8 => ?_) (fun c8 => ?_)
    · have hf := cl_yes c8 hf
      refine lv_aload_n hx hb dX6_undo_73 rfl (lv_at hl 0 rfl) ?_
      refine fg_X6_304 C hw ht0 dX6_undo_74 ?_
      obtain ⟨rfl, rfl⟩ := cl_pair hf
      exact cr_reti C hw dX6_undo_77
    · have hf := cl_no c8 hf
      refine lv_aload_n hx hb dX6_undo_46 rfl (lv_at hl 0 rfl) ?_
      refine fg_X6_17 C hw ht0 dX6_undo_47 ?_
      refine lv_iload_n hx hb dX6_undo_50 rfl (lv_at hl 1 rfl) ?_
      refine lv_aload_n hx hb dX6_undo_51 rfl (lv_at hl 0 rfl) ?_
      refine fg_X6_26 C hw ht0 dX6_undo_52 ?_
      refine lv_sipush (v := 149) hx hb dX6_undo_55 (by decide) ?_
      refine lv_aload_n hx hb dX6_undo_58 rfl (lv_at hl 0 rfl) ?_
      refine fg_X6_304 C hw ht0 dX6_undo_59 ?_
      refine lv_imul hx hb dX6_undo_62 ?_
      refine lv_iload_n hx hb dX6_undo_63 rfl (lv_at hl 1 rfl) ?_
      refine lv_iadd hx hb dX6_undo_64 ?_
      obtain ⟨q9, hf⟩ := cl_grd hf
      refine cr_iald C hw (sh_6_8 ht0).1 (sh_6_8 ht0).2 q9 (k := ((149 * (M t0 9)) + a1).toNatClampNeg) rfl dX6_undo_65 ?_
      obtain ⟨q10, hf⟩ := cl_grd hf
      obtain ⟨M11, eM11, hf⟩ := cl_let_e hf
      refine cr_iast C hw (sh_6_5 ht0).1 (sh_6_5 ht0).2 q10 (k := (a1).toNatClampNeg) rfl eM11 dX6_undo_66 (fun H locs hw => ?_)
      obtain ⟨v12, ev12, hf⟩ := cl_let_e hf
      refine lv_iinc (v := v12) (lv' := [(1, .int v12), (0, .ref (b + t0))]) hx hb dX6_undo_67 hl (k := 1) rfl (by rw [ev12]; rfl) (by decide) rfl (fun ls hl => ?_)
      refine lv_goto (tgt := 39) hx hb dX6_undo_70 (by decide) ?_
      exact ih M11 t0 v12 _ _ hf _ _ _ ht0 hw (lv_sub hl [1, 0] rfl)
def f_X6_undo_18 (M : cl_M) (t0 : Nat) (z0 : Int32) (w1 : Nat) : Option (Int32 × cl_M) := cl_b2 (f_X6_fails M w1 z0 1) (fun v3 M4 => if v3 = 0 then cl_let (cl_ms M4 t0 9 ((M4 t0 9) - 1)) (fun M7 => f_X6_undo_39 cl_F M7 t0 0) else some (0, M4))
set_option maxHeartbeats 4000000 in
set_option maxRecDepth 100000 in
theorem k_X6_undo_18 {p : Program} {l : Launch} {e : Env} {s : State} {m : MethodId} {args : Array Value} {below : List Frame} {meth : Method} {c : Code} {dd : cl_D} {b : Nat} (C : cl_C p l s m args meth c cX6_undo RX6 2 (some .int) dd b) : ∀ (M : cl_M) (t0 : Nat) (z0 : Int32) (w1 : Nat) (r : Int32) (M' : cl_M), f_X6_undo_18 M t0 z0 w1 = some (r, M') → ∀ (H : Heap) (locs : List Loc) (ls : Array Slot), cl_sh dd t0 = 6 → cl_sh dd w1 = 6 → cl_H dd b M s H locs → lv_has ls 2 [(0, .ref (b + t0))] → W p l e { frames := 1, cells := 0, slots := 0, locals := 22 } s m args below meth c H locs 0 0 (cl_Zi below args s dd b r M') (F0 m 18 ls [.int z0, .ref (b + w1)]) := by
  have hx := C.1
  have hb := C.2.1
  have hlt := C.2.2.2.2.2.2.2.2.2.2
  have hRr := C.2.2.2.2.2.2.2.2.2.1
  intro M t0 z0 w1 r M' hf H locs ls ht0 hw1 hw hl
  unfold f_X6_undo_18 at hf
  refine lv_iconst (v := 1) hx hb dX6_undo_18 (by decide) ?_
  obtain ⟨v3, M4, e5, hf⟩ := cl_b2_e hf
  refine cr_Vi C hw (c_X6_fails hlt hw1 e5) cy_X6_fails vy_X6_fails ml_X6_313 (cl_lt hw1 (by decide)) (cl_e6 hw1) rfl rfl (As := [.int z0, .int 1]) rfl hl.1 rfl ⟨⟨Nat.le_of_ble_eq_true rfl, Nat.le_of_ble_eq_true rfl⟩, Nat.le_of_ble_eq_true rfl, Nat.le_of_ble_eq_true rfl, Nat.le_of_ble_eq_true rfl⟩ dX6_undo_19 (fun H locs hw => ?_)
  refine lv_if_eq (tgt := 27) hx hb dX6_undo_22 (by decide) (fun c6 => ?_) (fun c6 => ?_)
  · have hf := cl_yes c6 hf
    refine lv_aload_n hx hb dX6_undo_27 rfl (lv_at hl 0 rfl) ?_
    refine lv_dup hx hb dX6_undo_28 rfl ?_
    refine fg_X6_304 C hw ht0 dX6_undo_29 ?_
    refine lv_iconst (v := 1) hx hb dX6_undo_32 (by decide) ?_
    refine lv_isub hx hb dX6_undo_33 ?_
    obtain ⟨M7, eM7, hf⟩ := cl_let_e hf
    refine fp_X6_304 C hw ht0 eM7 dX6_undo_34 (fun H locs hw => ?_)
    refine lv_iconst (v := 0) hx hb dX6_undo_37 (by decide) ?_
    refine lv_istore_n (lv' := [(1, .int 0), (0, .ref (b + t0))]) hx hb dX6_undo_38 rfl hl (by decide) rfl (fun ls hl => ?_)
    exact k_X6_undo_39 C cl_F M7 t0 0 _ _ hf _ _ _ ht0 hw (lv_sub hl [1, 0] rfl)
  · have hf := cl_no c6 hf
    refine lv_iconst (v := 0) hx hb dX6_undo_25 (by decide) ?_
    obtain ⟨rfl, rfl⟩ := cl_pair hf
    exact cr_reti C hw dX6_undo_26
def f_X6_undo (M : cl_M) (t0 : Nat) : Option (Int32 × cl_M) := cl_let (cl_ms M t0 4 0) (fun M1 => if (M1 t0 9) ≤ 0 then f_X6_undo_18 M1 t0 0 t0 else f_X6_undo_18 M1 t0 1 t0)
set_option maxHeartbeats 4000000 in
set_option maxRecDepth 100000 in
theorem k_X6_undo {p : Program} {l : Launch} {e : Env} {s : State} {m : MethodId} {args : Array Value} {below : List Frame} {meth : Method} {c : Code} {dd : cl_D} {b : Nat} (C : cl_C p l s m args meth c cX6_undo RX6 2 (some .int) dd b) : ∀ (M : cl_M) (t0 : Nat) (r : Int32) (M' : cl_M), f_X6_undo M t0 = some (r, M') → ∀ (H : Heap) (locs : List Loc) (ls : Array Slot), cl_sh dd t0 = 6 → cl_H dd b M s H locs → lv_has ls 2 [(0, .ref (b + t0))] → W p l e { frames := 1, cells := 0, slots := 0, locals := 22 } s m args below meth c H locs 0 0 (cl_Zi below args s dd b r M') (F0 m 0 ls []) := by
  have hx := C.1
  have hb := C.2.1
  have hlt := C.2.2.2.2.2.2.2.2.2.2
  have hRr := C.2.2.2.2.2.2.2.2.2.1
  intro M t0 r M' hf H locs ls ht0 hw hl
  unfold f_X6_undo at hf
  refine lv_aload_n hx hb dX6_undo_0 rfl (lv_at hl 0 rfl) ?_
  refine lv_iconst (v := 0) hx hb dX6_undo_1 (by decide) ?_
  obtain ⟨M1, eM1, hf⟩ := cl_let_e hf
  refine fp_X6_60 C hw ht0 eM1 dX6_undo_2 (fun H locs hw => ?_)
  refine lv_aload_n hx hb dX6_undo_5 rfl (lv_at hl 0 rfl) ?_
  refine lv_aload_n hx hb dX6_undo_6 rfl (lv_at hl 0 rfl) ?_
  refine fg_X6_304 C hw ht0 dX6_undo_7 ?_
  refine lv_if_le (tgt := 17) hx hb dX6_undo_10 (by decide) (fun c2 => ?_) (fun c2 => ?_)
  · have hf := cl_yes c2 hf
    refine lv_iconst (v := 0) hx hb dX6_undo_17 (by decide) ?_
    exact k_X6_undo_18 C M1 t0 0 t0 _ _ hf _ _ _ ht0 ht0 hw (lv_sub hl [0] rfl)
  · have hf := cl_no c2 hf
    refine lv_iconst (v := 1) hx hb dX6_undo_13 (by decide) ?_
    refine lv_goto (tgt := 18) hx hb dX6_undo_14 (by decide) ?_
    exact k_X6_undo_18 C M1 t0 1 t0 _ _ hf _ _ _ ht0 ht0 hw (lv_sub hl [0] rfl)
set_option maxRecDepth 100000 in
theorem c_X6_undo {l : Launch} {dd : cl_D} {b : Nat} (hlt : l.stackTraces = false) {M : cl_M} {t0 : Nat}  {r : Int32} {M' : cl_M} (ht0 : cl_sh dd t0 = 6) (h : f_X6_undo M t0 = some (r, M')) : cl_Mi l dd b yX6_undo cX6_undo 2 (some .int) 1 22 [.ref (b + t0)] M r M' :=
  cl_of hlt (by decide) (Nat.le_of_ble_eq_true rfl) (fun p e s m below meth c ls C hw hl => k_X6_undo C M t0 r M' h _ _ _ ht0 hw (lv_sub hl [0] rfl))
theorem cy_X6_undo : cl_cy yX6_undo cX6_undo 2 (some .int) 0 := ⟨in_ClothesLineModel, cd_X6_undo, by decide +kernel, by decide +kernel, by decide +kernel⟩
theorem vy_X6_undo : cl_vy yX6_undo := ⟨im_X6_undo, se_X6_undo⟩
def f_X6_save_23 : Nat → cl_M → Nat → Int32 → Int32 → Option (Int32 × cl_M)
  | 0, _, _, _, _ => none
  | k + 1, M, t0, a1, a2 => if 149 ≤ a2 then if cl_inb a1 2 = true then cl_let (cl_ms M (t0 + 7) (a1).toNatClampNeg (vp_nar .boolean 1)) (fun M10 => some (M10 (t0 + 2) 0, M10)) else none else if cl_inb a2 149 = true then if cl_inb ((149 * a1) + a2) 298 = true then cl_let (cl_ms M (t0 + 6) ((149 * a1) + a2).toNatClampNeg (M (t0 + 2) (a2.toNatClampNeg))) (fun M13 => cl_let (a2 + 1) (fun v14 => f_X6_save_23 k M13 t0 a1 v14)) else none else none
set_option maxHeartbeats 4000000 in
set_option maxRecDepth 100000 in
theorem k_X6_save_23 {p : Program} {l : Launch} {e : Env} {s : State} {m : MethodId} {args : Array Value} {below : List Frame} {meth : Method} {c : Code} {dd : cl_D} {b : Nat} (C : cl_C p l s m args meth c cX6_save RX6 3 (some .int) dd b) : ∀ (k : Nat), ∀ (M : cl_M) (t0 : Nat) (a1 : Int32) (a2 : Int32) (r : Int32) (M' : cl_M), f_X6_save_23 k M t0 a1 a2 = some (r, M') → ∀ (H : Heap) (locs : List Loc) (ls : Array Slot), cl_sh dd t0 = 6 → cl_H dd b M s H locs → lv_has ls 3 [(0, .ref (b + t0)), (1, .int a1), (2, .int a2)] → W p l e { frames := 1, cells := 0, slots := 0, locals := 22 } s m args below meth c H locs 0 0 (cl_Zi below args s dd b r M') (F0 m 23 ls []) := by
  have hx := C.1
  have hb := C.2.1
  have hlt := C.2.2.2.2.2.2.2.2.2.2
  have hRr := C.2.2.2.2.2.2.2.2.2.1
  intro k
  induction k with
  | zero =>
    intro M t0 a1 a2 r M' hf H locs ls ht0 hw hl
    rw [f_X6_save_23] at hf
    cases hf
  | succ k ih =>
    intro M t0 a1 a2 r M' hf H locs ls ht0 hw hl
    rw [f_X6_save_23] at hf
    refine lv_iload_n hx hb dX6_save_23 rfl (lv_at hl 2 rfl) ?_
    refine lv_sipush (v := 149) hx hb dX6_save_24 (by decide) ?_
    refine lv_icmp_ge (tgt := 54) hx hb dX6_save_27 (by decide) (fun c8 => ?_) (fun c8 => ?_)
    · have hf := cl_yes c8 hf
      refine lv_aload_n hx hb dX6_save_54 rfl (lv_at hl 0 rfl) ?_
      refine fg_X6_32 C hw ht0 dX6_save_55 ?_
      refine lv_iload_n hx hb dX6_save_58 rfl (lv_at hl 1 rfl) ?_
      refine lv_iconst (v := 1) hx hb dX6_save_59 (by decide) ?_
      obtain ⟨q9, hf⟩ := cl_grd hf
      obtain ⟨M10, eM10, hf⟩ := cl_let_e hf
      refine cr_zast C hw (sh_6_11 ht0).1 (sh_6_11 ht0).2 q9 (k := (a1).toNatClampNeg) rfl eM10 dX6_save_60 (fun H locs hw => ?_)
      refine lv_aload_n hx hb dX6_save_61 rfl (lv_at hl 0 rfl) ?_
      refine fg_X6_17 C hw ht0 dX6_save_62 ?_
      refine lv_iconst (v := 0) hx hb dX6_save_65 (by decide) ?_
      refine cr_iald C hw (sh_6_5 ht0).1 (sh_6_5 ht0).2 (by decide) (k := 0) rfl dX6_save_66 ?_
      obtain ⟨rfl, rfl⟩ := cl_pair hf
      exact cr_reti C hw dX6_save_67
    · have hf := cl_no c8 hf
      refine lv_aload_n hx hb dX6_save_30 rfl (lv_at hl 0 rfl) ?_
      refine fg_X6_29 C hw ht0 dX6_save_31 ?_
      refine lv_sipush (v := 149) hx hb dX6_save_34 (by decide) ?_
      refine lv_iload_n hx hb dX6_save_37 rfl (lv_at hl 1 rfl) ?_
      refine lv_imul hx hb dX6_save_38 ?_
      refine lv_iload_n hx hb dX6_save_39 rfl (lv_at hl 2 rfl) ?_
      refine lv_iadd hx hb dX6_save_40 ?_
      refine lv_aload_n hx hb dX6_save_41 rfl (lv_at hl 0 rfl) ?_
      refine fg_X6_17 C hw ht0 dX6_save_42 ?_
      refine lv_iload_n hx hb dX6_save_45 rfl (lv_at hl 2 rfl) ?_
      obtain ⟨q11, hf⟩ := cl_grd hf
      refine cr_iald C hw (sh_6_5 ht0).1 (sh_6_5 ht0).2 q11 (k := a2.toNatClampNeg) rfl dX6_save_46 ?_
      obtain ⟨q12, hf⟩ := cl_grd hf
      obtain ⟨M13, eM13, hf⟩ := cl_let_e hf
      refine cr_iast C hw (sh_6_10 ht0).1 (sh_6_10 ht0).2 q12 (k := ((149 * a1) + a2).toNatClampNeg) rfl eM13 dX6_save_47 (fun H locs hw => ?_)
      obtain ⟨v14, ev14, hf⟩ := cl_let_e hf
      refine lv_iinc (v := v14) (lv' := [(2, .int v14), (0, .ref (b + t0)), (1, .int a1)]) hx hb dX6_save_48 hl (k := 2) rfl (by rw [ev14]; rfl) (by decide) rfl (fun ls hl => ?_)
      refine lv_goto (tgt := 23) hx hb dX6_save_51 (by decide) ?_
      exact ih M13 t0 a1 v14 _ _ hf _ _ _ ht0 hw (lv_sub hl [1, 2, 0] rfl)
def f_X6_save (M : cl_M) (t0 : Nat) (a1 : Int32) : Option (Int32 × cl_M) := cl_let (cl_ms M t0 4 0) (fun M1 => (f_X6_inRange M1 a1 0 1).bind (fun v2 => cl_b2 (f_X6_fails M1 t0 v2 1) (fun v4 M5 => if v4 = 0 then f_X6_save_23 cl_F M5 t0 a1 0 else some (0, M5))))
set_option maxHeartbeats 4000000 in
set_option maxRecDepth 100000 in
theorem k_X6_save {p : Program} {l : Launch} {e : Env} {s : State} {m : MethodId} {args : Array Value} {below : List Frame} {meth : Method} {c : Code} {dd : cl_D} {b : Nat} (C : cl_C p l s m args meth c cX6_save RX6 3 (some .int) dd b) : ∀ (M : cl_M) (t0 : Nat) (a1 : Int32) (r : Int32) (M' : cl_M), f_X6_save M t0 a1 = some (r, M') → ∀ (H : Heap) (locs : List Loc) (ls : Array Slot), cl_sh dd t0 = 6 → cl_H dd b M s H locs → lv_has ls 3 [(0, .ref (b + t0)), (1, .int a1)] → W p l e { frames := 1, cells := 0, slots := 0, locals := 22 } s m args below meth c H locs 0 0 (cl_Zi below args s dd b r M') (F0 m 0 ls []) := by
  have hx := C.1
  have hb := C.2.1
  have hlt := C.2.2.2.2.2.2.2.2.2.2
  have hRr := C.2.2.2.2.2.2.2.2.2.1
  intro M t0 a1 r M' hf H locs ls ht0 hw hl
  unfold f_X6_save at hf
  refine lv_aload_n hx hb dX6_save_0 rfl (lv_at hl 0 rfl) ?_
  refine lv_iconst (v := 0) hx hb dX6_save_1 (by decide) ?_
  obtain ⟨M1, eM1, hf⟩ := cl_let_e hf
  refine fp_X6_60 C hw ht0 eM1 dX6_save_2 (fun H locs hw => ?_)
  refine lv_aload_n hx hb dX6_save_5 rfl (lv_at hl 0 rfl) ?_
  refine lv_iload_n hx hb dX6_save_6 rfl (lv_at hl 1 rfl) ?_
  refine lv_iconst (v := 0) hx hb dX6_save_7 (by decide) ?_
  refine lv_iconst (v := 1) hx hb dX6_save_8 (by decide) ?_
  obtain ⟨v2, e3, hf⟩ := cl_bind_e hf
  refine cr_Si C hw (c_X6_inRange hlt e3) cy_X6_inRange st_X6_inRange ml_X6_63 (As := [.int a1, .int 0, .int 1]) rfl hl.1 rfl ⟨⟨Nat.le_of_ble_eq_true rfl, Nat.le_of_ble_eq_true rfl⟩, Nat.le_of_ble_eq_true rfl, Nat.le_of_ble_eq_true rfl, Nat.le_of_ble_eq_true rfl⟩ dX6_save_9 (fun H locs hw => ?_)
  refine lv_iconst (v := 1) hx hb dX6_save_12 (by decide) ?_
  obtain ⟨v4, M5, e6, hf⟩ := cl_b2_e hf
  refine cr_Vi C hw (c_X6_fails hlt ht0 e6) cy_X6_fails vy_X6_fails ml_X6_313 (cl_lt ht0 (by decide)) (cl_e6 ht0) rfl rfl (As := [.int v2, .int 1]) rfl hl.1 rfl ⟨⟨Nat.le_of_ble_eq_true rfl, Nat.le_of_ble_eq_true rfl⟩, Nat.le_of_ble_eq_true rfl, Nat.le_of_ble_eq_true rfl, Nat.le_of_ble_eq_true rfl⟩ dX6_save_13 (fun H locs hw => ?_)
  refine lv_if_eq (tgt := 21) hx hb dX6_save_16 (by decide) (fun c7 => ?_) (fun c7 => ?_)
  · have hf := cl_yes c7 hf
    refine lv_iconst (v := 0) hx hb dX6_save_21 (by decide) ?_
    refine lv_istore_n (lv' := [(2, .int 0), (0, .ref (b + t0)), (1, .int a1)]) hx hb dX6_save_22 rfl hl (by decide) rfl (fun ls hl => ?_)
    exact k_X6_save_23 C cl_F M5 t0 a1 0 _ _ hf _ _ _ ht0 hw (lv_sub hl [1, 2, 0] rfl)
  · have hf := cl_no c7 hf
    refine lv_iconst (v := 0) hx hb dX6_save_19 (by decide) ?_
    obtain ⟨rfl, rfl⟩ := cl_pair hf
    exact cr_reti C hw dX6_save_20
set_option maxRecDepth 100000 in
theorem c_X6_save {l : Launch} {dd : cl_D} {b : Nat} (hlt : l.stackTraces = false) {M : cl_M} {t0 : Nat} {a1 : Int32}  {r : Int32} {M' : cl_M} (ht0 : cl_sh dd t0 = 6) (h : f_X6_save M t0 a1 = some (r, M')) : cl_Mi l dd b yX6_save cX6_save 3 (some .int) 1 22 [.ref (b + t0), .int a1] M r M' :=
  cl_of hlt (by decide) (Nat.le_of_ble_eq_true rfl) (fun p e s m below meth c ls C hw hl => k_X6_save C M t0 a1 r M' h _ _ _ ht0 hw (lv_sub hl [0, 1] rfl))
theorem cy_X6_save : cl_cy yX6_save cX6_save 3 (some .int) 1 := ⟨in_ClothesLineModel, cd_X6_save, by decide +kernel, by decide +kernel, by decide +kernel⟩
theorem vy_X6_save : cl_vy yX6_save := ⟨im_X6_save, se_X6_save⟩
def f_X6_restore_37 : Nat → cl_M → Nat → Int32 → Int32 → Option (Int32 × cl_M)
  | 0, _, _, _, _ => none
  | k + 1, M, t0, a1, a2 => if 149 ≤ a2 then cl_let (cl_ms M t0 9 0) (fun M14 => some (M14 (t0 + 2) 0, M14)) else if cl_inb ((149 * a1) + a2) 298 = true then if cl_inb a2 149 = true then cl_let (cl_ms M (t0 + 2) (a2).toNatClampNeg (M (t0 + 6) (((149 * a1) + a2).toNatClampNeg))) (fun M17 => cl_let (a2 + 1) (fun v18 => f_X6_restore_37 k M17 t0 a1 v18)) else none else none
set_option maxHeartbeats 4000000 in
set_option maxRecDepth 100000 in
theorem k_X6_restore_37 {p : Program} {l : Launch} {e : Env} {s : State} {m : MethodId} {args : Array Value} {below : List Frame} {meth : Method} {c : Code} {dd : cl_D} {b : Nat} (C : cl_C p l s m args meth c cX6_restore RX6 3 (some .int) dd b) : ∀ (k : Nat), ∀ (M : cl_M) (t0 : Nat) (a1 : Int32) (a2 : Int32) (r : Int32) (M' : cl_M), f_X6_restore_37 k M t0 a1 a2 = some (r, M') → ∀ (H : Heap) (locs : List Loc) (ls : Array Slot), cl_sh dd t0 = 6 → cl_H dd b M s H locs → lv_has ls 3 [(0, .ref (b + t0)), (1, .int a1), (2, .int a2)] → W p l e { frames := 1, cells := 0, slots := 0, locals := 22 } s m args below meth c H locs 0 0 (cl_Zi below args s dd b r M') (F0 m 37 ls []) := by
  have hx := C.1
  have hb := C.2.1
  have hlt := C.2.2.2.2.2.2.2.2.2.2
  have hRr := C.2.2.2.2.2.2.2.2.2.1
  intro k
  induction k with
  | zero =>
    intro M t0 a1 a2 r M' hf H locs ls ht0 hw hl
    rw [f_X6_restore_37] at hf
    cases hf
  | succ k ih =>
    intro M t0 a1 a2 r M' hf H locs ls ht0 hw hl
    rw [f_X6_restore_37] at hf
    refine lv_iload_n hx hb dX6_restore_37 rfl (lv_at hl 2 rfl) ?_
    refine lv_sipush (v := 149) hx hb dX6_restore_38 (by decide) ?_
    refine lv_icmp_ge (tgt := 68) hx hb dX6_restore_41 (by decide) (fun c13 => ?_) (fun c13 => ?_)
    · have hf := cl_yes c13 hf
      refine lv_aload_n hx hb dX6_restore_68 rfl (lv_at hl 0 rfl) ?_
      refine lv_iconst (v := 0) hx hb dX6_restore_69 (by decide) ?_
      obtain ⟨M14, eM14, hf⟩ := cl_let_e hf
      refine fp_X6_304 C hw ht0 eM14 dX6_restore_70 (fun H locs hw => ?_)
      refine lv_aload_n hx hb dX6_restore_73 rfl (lv_at hl 0 rfl) ?_
      refine fg_X6_17 C hw ht0 dX6_restore_74 ?_
      refine lv_iconst (v := 0) hx hb dX6_restore_77 (by decide) ?_
      refine cr_iald C hw (sh_6_5 ht0).1 (sh_6_5 ht0).2 (by decide) (k := 0) rfl dX6_restore_78 ?_
      obtain ⟨rfl, rfl⟩ := cl_pair hf
      exact cr_reti C hw dX6_restore_79
    · have hf := cl_no c13 hf
      refine lv_aload_n hx hb dX6_restore_44 rfl (lv_at hl 0 rfl) ?_
      refine fg_X6_17 C hw ht0 dX6_restore_45 ?_
      refine lv_iload_n hx hb dX6_restore_48 rfl (lv_at hl 2 rfl) ?_
      refine lv_aload_n hx hb dX6_restore_49 rfl (lv_at hl 0 rfl) ?_
      refine fg_X6_29 C hw ht0 dX6_restore_50 ?_
      refine lv_sipush (v := 149) hx hb dX6_restore_53 (by decide) ?_
      refine lv_iload_n hx hb dX6_restore_56 rfl (lv_at hl 1 rfl) ?_
      refine lv_imul hx hb dX6_restore_57 ?_
      refine lv_iload_n hx hb dX6_restore_58 rfl (lv_at hl 2 rfl) ?_
      refine lv_iadd hx hb dX6_restore_59 ?_
      obtain ⟨q15, hf⟩ := cl_grd hf
      refine cr_iald C hw (sh_6_10 ht0).1 (sh_6_10 ht0).2 q15 (k := ((149 * a1) + a2).toNatClampNeg) rfl dX6_restore_60 ?_
      obtain ⟨q16, hf⟩ := cl_grd hf
      obtain ⟨M17, eM17, hf⟩ := cl_let_e hf
      refine cr_iast C hw (sh_6_5 ht0).1 (sh_6_5 ht0).2 q16 (k := (a2).toNatClampNeg) rfl eM17 dX6_restore_61 (fun H locs hw => ?_)
      obtain ⟨v18, ev18, hf⟩ := cl_let_e hf
      refine lv_iinc (v := v18) (lv' := [(2, .int v18), (0, .ref (b + t0)), (1, .int a1)]) hx hb dX6_restore_62 hl (k := 2) rfl (by rw [ev18]; rfl) (by decide) rfl (fun ls hl => ?_)
      refine lv_goto (tgt := 37) hx hb dX6_restore_65 (by decide) ?_
      exact ih M17 t0 a1 v18 _ _ hf _ _ _ ht0 hw (lv_sub hl [1, 2, 0] rfl)
def f_X6_restore (M : cl_M) (t0 : Nat) (a1 : Int32) : Option (Int32 × cl_M) := cl_let (cl_ms M t0 4 0) (fun M1 => (f_X6_inRange M1 a1 0 1).bind (fun v2 => cl_b2 (f_X6_fails M1 t0 v2 1) (fun v4 M5 => if v4 = 0 then if cl_inb a1 2 = true then cl_b2 (f_X6_fails M5 t0 (M5 (t0 + 7) (a1.toNatClampNeg)) 2) (fun v9 M10 => if v9 = 0 then f_X6_restore_37 cl_F M10 t0 a1 0 else some (0, M10)) else none else some (0, M5))))
set_option maxHeartbeats 4000000 in
set_option maxRecDepth 100000 in
theorem k_X6_restore {p : Program} {l : Launch} {e : Env} {s : State} {m : MethodId} {args : Array Value} {below : List Frame} {meth : Method} {c : Code} {dd : cl_D} {b : Nat} (C : cl_C p l s m args meth c cX6_restore RX6 3 (some .int) dd b) : ∀ (M : cl_M) (t0 : Nat) (a1 : Int32) (r : Int32) (M' : cl_M), f_X6_restore M t0 a1 = some (r, M') → ∀ (H : Heap) (locs : List Loc) (ls : Array Slot), cl_sh dd t0 = 6 → cl_H dd b M s H locs → lv_has ls 3 [(0, .ref (b + t0)), (1, .int a1)] → W p l e { frames := 1, cells := 0, slots := 0, locals := 22 } s m args below meth c H locs 0 0 (cl_Zi below args s dd b r M') (F0 m 0 ls []) := by
  have hx := C.1
  have hb := C.2.1
  have hlt := C.2.2.2.2.2.2.2.2.2.2
  have hRr := C.2.2.2.2.2.2.2.2.2.1
  intro M t0 a1 r M' hf H locs ls ht0 hw hl
  unfold f_X6_restore at hf
  refine lv_aload_n hx hb dX6_restore_0 rfl (lv_at hl 0 rfl) ?_
  refine lv_iconst (v := 0) hx hb dX6_restore_1 (by decide) ?_
  obtain ⟨M1, eM1, hf⟩ := cl_let_e hf
  refine fp_X6_60 C hw ht0 eM1 dX6_restore_2 (fun H locs hw => ?_)
  refine lv_aload_n hx hb dX6_restore_5 rfl (lv_at hl 0 rfl) ?_
  refine lv_iload_n hx hb dX6_restore_6 rfl (lv_at hl 1 rfl) ?_
  refine lv_iconst (v := 0) hx hb dX6_restore_7 (by decide) ?_
  refine lv_iconst (v := 1) hx hb dX6_restore_8 (by decide) ?_
  obtain ⟨v2, e3, hf⟩ := cl_bind_e hf
  refine cr_Si C hw (c_X6_inRange hlt e3) cy_X6_inRange st_X6_inRange ml_X6_63 (As := [.int a1, .int 0, .int 1]) rfl hl.1 rfl ⟨⟨Nat.le_of_ble_eq_true rfl, Nat.le_of_ble_eq_true rfl⟩, Nat.le_of_ble_eq_true rfl, Nat.le_of_ble_eq_true rfl, Nat.le_of_ble_eq_true rfl⟩ dX6_restore_9 (fun H locs hw => ?_)
  refine lv_iconst (v := 1) hx hb dX6_restore_12 (by decide) ?_
  obtain ⟨v4, M5, e6, hf⟩ := cl_b2_e hf
  refine cr_Vi C hw (c_X6_fails hlt ht0 e6) cy_X6_fails vy_X6_fails ml_X6_313 (cl_lt ht0 (by decide)) (cl_e6 ht0) rfl rfl (As := [.int v2, .int 1]) rfl hl.1 rfl ⟨⟨Nat.le_of_ble_eq_true rfl, Nat.le_of_ble_eq_true rfl⟩, Nat.le_of_ble_eq_true rfl, Nat.le_of_ble_eq_true rfl, Nat.le_of_ble_eq_true rfl⟩ dX6_restore_13 (fun H locs hw => ?_)
  refine lv_if_ne (tgt := 33) hx hb dX6_restore_16 (by decide) (fun c7 => ?_) (fun c7 => ?_)
  · have hf := cl_no c7 hf
    refine lv_iconst (v := 0) hx hb dX6_restore_33 (by decide) ?_
    obtain ⟨rfl, rfl⟩ := cl_pair hf
    exact cr_reti C hw dX6_restore_34
  · have hf := cl_yes c7 hf
    refine lv_aload_n hx hb dX6_restore_19 rfl (lv_at hl 0 rfl) ?_
    refine lv_aload_n hx hb dX6_restore_20 rfl (lv_at hl 0 rfl) ?_
    refine fg_X6_32 C hw ht0 dX6_restore_21 ?_
    refine lv_iload_n hx hb dX6_restore_24 rfl (lv_at hl 1 rfl) ?_
    obtain ⟨q8, hf⟩ := cl_grd hf
    refine cr_zald C hw (sh_6_11 ht0).1 (sh_6_11 ht0).2 q8 (k := a1.toNatClampNeg) rfl dX6_restore_25 ?_
    refine lv_iconst (v := 2) hx hb dX6_restore_26 (by decide) ?_
    obtain ⟨v9, M10, e11, hf⟩ := cl_b2_e hf
    refine cr_Vi C hw (c_X6_fails hlt ht0 e11) cy_X6_fails vy_X6_fails ml_X6_313 (cl_lt ht0 (by decide)) (cl_e6 ht0) rfl rfl (As := [.int (M5 (t0 + 7) (a1.toNatClampNeg)), .int 2]) rfl hl.1 rfl ⟨⟨Nat.le_of_ble_eq_true rfl, Nat.le_of_ble_eq_true rfl⟩, Nat.le_of_ble_eq_true rfl, Nat.le_of_ble_eq_true rfl, Nat.le_of_ble_eq_true rfl⟩ dX6_restore_27 (fun H locs hw => ?_)
    refine lv_if_eq (tgt := 35) hx hb dX6_restore_30 (by decide) (fun c12 => ?_) (fun c12 => ?_)
    · have hf := cl_yes c12 hf
      refine lv_iconst (v := 0) hx hb dX6_restore_35 (by decide) ?_
      refine lv_istore_n (lv' := [(2, .int 0), (0, .ref (b + t0)), (1, .int a1)]) hx hb dX6_restore_36 rfl hl (by decide) rfl (fun ls hl => ?_)
      exact k_X6_restore_37 C cl_F M10 t0 a1 0 _ _ hf _ _ _ ht0 hw (lv_sub hl [1, 2, 0] rfl)
    · have hf := cl_no c12 hf
      refine lv_iconst (v := 0) hx hb dX6_restore_33 (by decide) ?_
      obtain ⟨rfl, rfl⟩ := cl_pair hf
      exact cr_reti C hw dX6_restore_34
set_option maxRecDepth 100000 in
theorem c_X6_restore {l : Launch} {dd : cl_D} {b : Nat} (hlt : l.stackTraces = false) {M : cl_M} {t0 : Nat} {a1 : Int32}  {r : Int32} {M' : cl_M} (ht0 : cl_sh dd t0 = 6) (h : f_X6_restore M t0 a1 = some (r, M')) : cl_Mi l dd b yX6_restore cX6_restore 3 (some .int) 1 22 [.ref (b + t0), .int a1] M r M' :=
  cl_of hlt (by decide) (Nat.le_of_ble_eq_true rfl) (fun p e s m below meth c ls C hw hl => k_X6_restore C M t0 a1 r M' h _ _ _ ht0 hw (lv_sub hl [0, 1] rfl))
theorem cy_X6_restore : cl_cy yX6_restore cX6_restore 3 (some .int) 1 := ⟨in_ClothesLineModel, cd_X6_restore, by decide +kernel, by decide +kernel, by decide +kernel⟩
theorem vy_X6_restore : cl_vy yX6_restore := ⟨im_X6_restore, se_X6_restore⟩
def f_X6_writeLine_68 (r24 : cl_M → Nat → Int32 → Int32 → Option (Int32 × cl_M)) (M : cl_M) (t0 : Nat) (a1 : Int32) (a2 : Int32) (z0 : Int32) (z1 : Int32) (w2 : Nat) : Option (Int32 × cl_M) := if cl_inb z1 24 = true then cl_let (cl_ms M w2 (z1).toNatClampNeg z0) (fun M13 => cl_let (a2 + 1) (fun v14 => r24 M13 t0 a1 v14)) else none
set_option maxHeartbeats 4000000 in
set_option maxRecDepth 100000 in
theorem k_X6_writeLine_68 {p : Program} {l : Launch} {e : Env} {s : State} {m : MethodId} {args : Array Value} {below : List Frame} {meth : Method} {c : Code} {dd : cl_D} {b : Nat} (C : cl_C p l s m args meth c cX6_writeLine RX6 4 (some .int) dd b) {r24 : cl_M → Nat → Int32 → Int32 → Option (Int32 × cl_M)} (hr24 : ∀ (M : cl_M) (t0 : Nat) (a1 : Int32) (a2 : Int32) (r : Int32) (M' : cl_M), r24 M t0 a1 a2 = some (r, M') → ∀ (H : Heap) (locs : List Loc) (ls : Array Slot), cl_sh dd t0 = 6 → cl_H dd b M s H locs → lv_has ls 4 [(0, .ref (b + t0)), (1, .int a1), (2, .int a2)] → W p l e { frames := 4, cells := 0, slots := 0, locals := 87 } s m args below meth c H locs 0 0 (cl_Zi below args s dd b r M') (F0 m 24 ls [])) : ∀ (M : cl_M) (t0 : Nat) (a1 : Int32) (a2 : Int32) (z0 : Int32) (z1 : Int32) (w2 : Nat) (r : Int32) (M' : cl_M), f_X6_writeLine_68 r24 M t0 a1 a2 z0 z1 w2 = some (r, M') → ∀ (H : Heap) (locs : List Loc) (ls : Array Slot), cl_sh dd t0 = 6 → cl_sh dd w2 = 7 → cl_ln w2 = 24 → cl_H dd b M s H locs → lv_has ls 4 [(0, .ref (b + t0)), (1, .int a1), (2, .int a2)] → W p l e { frames := 4, cells := 0, slots := 0, locals := 87 } s m args below meth c H locs 0 0 (cl_Zi below args s dd b r M') (F0 m 68 ls [.int z0, .int z1, .ref (b + w2)]) := by
  have hx := C.1
  have hb := C.2.1
  have hlt := C.2.2.2.2.2.2.2.2.2.2
  have hRr := C.2.2.2.2.2.2.2.2.2.1
  intro M t0 a1 a2 z0 z1 w2 r M' hf H locs ls ht0 hw2 gw2 hw hl
  unfold f_X6_writeLine_68 at hf
  obtain ⟨q12, hf⟩ := cl_grd hf
  obtain ⟨M13, eM13, hf⟩ := cl_let_e hf
  refine cr_iast C hw hw2 gw2 q12 (k := (z1).toNatClampNeg) rfl eM13 dX6_writeLine_68 (fun H locs hw => ?_)
  obtain ⟨v14, ev14, hf⟩ := cl_let_e hf
  refine lv_iinc (v := v14) (lv' := [(2, .int v14), (0, .ref (b + t0)), (1, .int a1)]) hx hb dX6_writeLine_69 hl (k := 2) rfl (by rw [ev14]; rfl) (by decide) rfl (fun ls hl => ?_)
  refine lv_goto (tgt := 24) hx hb dX6_writeLine_72 (by decide) ?_
  exact hr24 M13 t0 a1 v14 _ _ hf _ _ _ ht0 hw (lv_sub hl [1, 2, 0] rfl)
def f_X6_writeLine_24 : Nat → cl_M → Nat → Int32 → Int32 → Option (Int32 × cl_M)
  | 0, _, _, _, _ => none
  | k + 1, M, t0, a1, a2 => if 24 ≤ a2 then some (M t0 18, M) else (f_X6_onSpot M t0 a2).bind (fun v6 => if v6 = (-1) then (f_X6_has M a1 a2).bind (fun v9 => if v9 = 0 then f_X6_writeLine_68 (f_X6_writeLine_24 k) M t0 a1 a2 45 a2 (t0 + 9) else f_X6_writeLine_68 (f_X6_writeLine_24 k) M t0 a1 a2 42 a2 (t0 + 9)) else f_X6_writeLine_68 (f_X6_writeLine_24 k) M t0 a1 a2 (48 + v6) a2 (t0 + 9))
set_option maxHeartbeats 4000000 in
set_option maxRecDepth 100000 in
theorem k_X6_writeLine_24 {p : Program} {l : Launch} {e : Env} {s : State} {m : MethodId} {args : Array Value} {below : List Frame} {meth : Method} {c : Code} {dd : cl_D} {b : Nat} (C : cl_C p l s m args meth c cX6_writeLine RX6 4 (some .int) dd b) : ∀ (k : Nat), ∀ (M : cl_M) (t0 : Nat) (a1 : Int32) (a2 : Int32) (r : Int32) (M' : cl_M), f_X6_writeLine_24 k M t0 a1 a2 = some (r, M') → ∀ (H : Heap) (locs : List Loc) (ls : Array Slot), cl_sh dd t0 = 6 → cl_H dd b M s H locs → lv_has ls 4 [(0, .ref (b + t0)), (1, .int a1), (2, .int a2)] → W p l e { frames := 4, cells := 0, slots := 0, locals := 87 } s m args below meth c H locs 0 0 (cl_Zi below args s dd b r M') (F0 m 24 ls []) := by
  have hx := C.1
  have hb := C.2.1
  have hlt := C.2.2.2.2.2.2.2.2.2.2
  have hRr := C.2.2.2.2.2.2.2.2.2.1
  intro k
  induction k with
  | zero =>
    intro M t0 a1 a2 r M' hf H locs ls ht0 hw hl
    rw [f_X6_writeLine_24] at hf
    cases hf
  | succ k ih =>
    intro M t0 a1 a2 r M' hf H locs ls ht0 hw hl
    rw [f_X6_writeLine_24] at hf
    refine lv_iload_n hx hb dX6_writeLine_24 rfl (lv_at hl 2 rfl) ?_
    refine lv_bipush (v := 24) hx hb dX6_writeLine_25 (by decide) ?_
    refine lv_icmp_ge (tgt := 75) hx hb dX6_writeLine_27 (by decide) (fun c5 => ?_) (fun c5 => ?_)
    · have hf := cl_yes c5 hf
      refine lv_aload_n hx hb dX6_writeLine_75 rfl (lv_at hl 0 rfl) ?_
      refine fg_X6_357 C hw ht0 dX6_writeLine_76 ?_
      obtain ⟨rfl, rfl⟩ := cl_pair hf
      exact cr_reti C hw dX6_writeLine_79
    · have hf := cl_no c5 hf
      refine lv_aload_n hx hb dX6_writeLine_30 rfl (lv_at hl 0 rfl) ?_
      refine lv_iload_n hx hb dX6_writeLine_31 rfl (lv_at hl 2 rfl) ?_
      obtain ⟨v6, e7, hf⟩ := cl_bind_e hf
      refine cr_Vi C hw (c_X6_onSpot hlt ht0 e7) cy_X6_onSpot vy_X6_onSpot ml_X6_329 (cl_lt ht0 (by decide)) (cl_e6 ht0) rfl rfl (As := [.int a2]) rfl hl.1 rfl ⟨⟨Nat.le_of_ble_eq_true rfl, Nat.le_of_ble_eq_true rfl⟩, Nat.le_of_ble_eq_true rfl, Nat.le_of_ble_eq_true rfl, Nat.le_of_ble_eq_true rfl⟩ dX6_writeLine_32 (fun H locs hw => ?_)
      refine lv_istore_n (lv' := [(3, .int v6), (0, .ref (b + t0)), (1, .int a1), (2, .int a2)]) hx hb dX6_writeLine_35 rfl hl (by decide) rfl (fun ls hl => ?_)
      refine lv_aload_n hx hb dX6_writeLine_36 rfl (lv_at hl 1 rfl) ?_
      refine fg_X6_39 C hw ht0 dX6_writeLine_37 ?_
      refine lv_iload_n hx hb dX6_writeLine_40 rfl (lv_at hl 3 rfl) ?_
      refine lv_iload_n hx hb dX6_writeLine_41 rfl (lv_at hl 0 rfl) ?_
      refine lv_iconst (v := (-1)) hx hb dX6_writeLine_42 (by decide) ?_
      refine lv_icmp_eq (tgt := 53) hx hb dX6_writeLine_43 (by decide) (fun c8 => ?_) (fun c8 => ?_)
      · have hf := cl_yes c8 hf
        refine lv_iload_n hx hb dX6_writeLine_53 rfl (lv_at hl 2 rfl) ?_
        refine lv_iload_n hx hb dX6_writeLine_54 rfl (lv_at hl 3 rfl) ?_
        obtain ⟨v9, e10, hf⟩ := cl_bind_e hf
        refine cr_Si C hw (c_X6_has hlt e10) cy_X6_has st_X6_has ml_X6_323 (As := [.int a1, .int a2]) rfl hl.1 rfl ⟨⟨Nat.le_of_ble_eq_true rfl, Nat.le_of_ble_eq_true rfl⟩, Nat.le_of_ble_eq_true rfl, Nat.le_of_ble_eq_true rfl, Nat.le_of_ble_eq_true rfl⟩ dX6_writeLine_55 (fun H locs hw => ?_)
        refine lv_if_eq (tgt := 66) hx hb dX6_writeLine_58 (by decide) (fun c11 => ?_) (fun c11 => ?_)
        · have hf := cl_yes c11 hf
          refine lv_bipush (v := 45) hx hb dX6_writeLine_66 (by decide) ?_
          exact k_X6_writeLine_68 C ih M t0 a1 a2 45 a2 (t0 + 9) _ _ hf _ _ _ ht0 (sh_6_13 ht0).1 (sh_6_13 ht0).2 hw (lv_sub hl [1, 2, 3] rfl)
        · have hf := cl_no c11 hf
          refine lv_bipush (v := 42) hx hb dX6_writeLine_61 (by decide) ?_
          refine lv_goto (tgt := 68) hx hb dX6_writeLine_63 (by decide) ?_
          exact k_X6_writeLine_68 C ih M t0 a1 a2 42 a2 (t0 + 9) _ _ hf _ _ _ ht0 (sh_6_13 ht0).1 (sh_6_13 ht0).2 hw (lv_sub hl [1, 2, 3] rfl)
      · have hf := cl_no c8 hf
        refine lv_bipush (v := 48) hx hb dX6_writeLine_46 (by decide) ?_
        refine lv_iload_n hx hb dX6_writeLine_48 rfl (lv_at hl 0 rfl) ?_
        refine lv_iadd hx hb dX6_writeLine_49 ?_
        refine lv_goto (tgt := 68) hx hb dX6_writeLine_50 (by decide) ?_
        exact k_X6_writeLine_68 C ih M t0 a1 a2 (48 + v6) a2 (t0 + 9) _ _ hf _ _ _ ht0 (sh_6_13 ht0).1 (sh_6_13 ht0).2 hw (lv_sub hl [1, 2, 3] rfl)
def f_X6_writeLine (M : cl_M) (t0 : Nat) : Option (Int32 × cl_M) := cl_let (cl_ms M t0 4 0) (fun M1 => (f_X6_sunnyAt M1 t0 (M1 (t0 + 2) 0)).bind (fun v2 => cl_let (cl_ms M1 t0 18 24) (fun M4 => f_X6_writeLine_24 cl_F M4 t0 v2 0)))
set_option maxHeartbeats 4000000 in
set_option maxRecDepth 100000 in
theorem k_X6_writeLine {p : Program} {l : Launch} {e : Env} {s : State} {m : MethodId} {args : Array Value} {below : List Frame} {meth : Method} {c : Code} {dd : cl_D} {b : Nat} (C : cl_C p l s m args meth c cX6_writeLine RX6 4 (some .int) dd b) : ∀ (M : cl_M) (t0 : Nat) (r : Int32) (M' : cl_M), f_X6_writeLine M t0 = some (r, M') → ∀ (H : Heap) (locs : List Loc) (ls : Array Slot), cl_sh dd t0 = 6 → cl_H dd b M s H locs → lv_has ls 4 [(0, .ref (b + t0))] → W p l e { frames := 4, cells := 0, slots := 0, locals := 87 } s m args below meth c H locs 0 0 (cl_Zi below args s dd b r M') (F0 m 0 ls []) := by
  have hx := C.1
  have hb := C.2.1
  have hlt := C.2.2.2.2.2.2.2.2.2.2
  have hRr := C.2.2.2.2.2.2.2.2.2.1
  intro M t0 r M' hf H locs ls ht0 hw hl
  unfold f_X6_writeLine at hf
  refine lv_aload_n hx hb dX6_writeLine_0 rfl (lv_at hl 0 rfl) ?_
  refine lv_iconst (v := 0) hx hb dX6_writeLine_1 (by decide) ?_
  obtain ⟨M1, eM1, hf⟩ := cl_let_e hf
  refine fp_X6_60 C hw ht0 eM1 dX6_writeLine_2 (fun H locs hw => ?_)
  refine lv_aload_n hx hb dX6_writeLine_5 rfl (lv_at hl 0 rfl) ?_
  refine lv_aload_n hx hb dX6_writeLine_6 rfl (lv_at hl 0 rfl) ?_
  refine fg_X6_17 C hw ht0 dX6_writeLine_7 ?_
  refine lv_iconst (v := 0) hx hb dX6_writeLine_10 (by decide) ?_
  refine cr_iald C hw (sh_6_5 ht0).1 (sh_6_5 ht0).2 (by decide) (k := 0) rfl dX6_writeLine_11 ?_
  obtain ⟨v2, e3, hf⟩ := cl_bind_e hf
  refine cr_Vi C hw (c_X6_sunnyAt hlt ht0 e3) cy_X6_sunnyAt vy_X6_sunnyAt ml_X6_114 (cl_lt ht0 (by decide)) (cl_e6 ht0) rfl rfl (As := [.int (M1 (t0 + 2) 0)]) rfl hl.1 rfl ⟨⟨Nat.le_of_ble_eq_true rfl, Nat.le_of_ble_eq_true rfl⟩, Nat.le_of_ble_eq_true rfl, Nat.le_of_ble_eq_true rfl, Nat.le_of_ble_eq_true rfl⟩ dX6_writeLine_12 (fun H locs hw => ?_)
  refine lv_istore_n (lv' := [(1, .int v2), (0, .ref (b + t0))]) hx hb dX6_writeLine_15 rfl hl (by decide) rfl (fun ls hl => ?_)
  refine lv_aload_n hx hb dX6_writeLine_16 rfl (lv_at hl 1 rfl) ?_
  refine lv_bipush (v := 24) hx hb dX6_writeLine_17 (by decide) ?_
  obtain ⟨M4, eM4, hf⟩ := cl_let_e hf
  refine fp_X6_357 C hw ht0 eM4 dX6_writeLine_19 (fun H locs hw => ?_)
  refine lv_iconst (v := 0) hx hb dX6_writeLine_22 (by decide) ?_
  refine lv_istore_n (lv' := [(2, .int 0), (1, .int v2), (0, .ref (b + t0))]) hx hb dX6_writeLine_23 rfl hl (by decide) rfl (fun ls hl => ?_)
  exact k_X6_writeLine_24 C cl_F M4 t0 v2 0 _ _ hf _ _ _ ht0 hw (lv_sub hl [2, 1, 0] rfl)
set_option maxRecDepth 100000 in
theorem c_X6_writeLine {l : Launch} {dd : cl_D} {b : Nat} (hlt : l.stackTraces = false) {M : cl_M} {t0 : Nat}  {r : Int32} {M' : cl_M} (ht0 : cl_sh dd t0 = 6) (h : f_X6_writeLine M t0 = some (r, M')) : cl_Mi l dd b yX6_writeLine cX6_writeLine 4 (some .int) 4 87 [.ref (b + t0)] M r M' :=
  cl_of hlt (by decide) (Nat.le_of_ble_eq_true rfl) (fun p e s m below meth c ls C hw hl => k_X6_writeLine C M t0 r M' h _ _ _ ht0 hw (lv_sub hl [0] rfl))
theorem cy_X6_writeLine : cl_cy yX6_writeLine cX6_writeLine 4 (some .int) 0 := ⟨in_ClothesLineModel, cd_X6_writeLine, by decide +kernel, by decide +kernel, by decide +kernel⟩
theorem vy_X6_writeLine : cl_vy yX6_writeLine := ⟨im_X6_writeLine, se_X6_writeLine⟩
def f_X6_outputByte_29 (M : cl_M) (z0 : Int32) : Option (Int32 × cl_M) := some (z0, M)
set_option maxHeartbeats 4000000 in
set_option maxRecDepth 100000 in
theorem k_X6_outputByte_29 {p : Program} {l : Launch} {e : Env} {s : State} {m : MethodId} {args : Array Value} {below : List Frame} {meth : Method} {c : Code} {dd : cl_D} {b : Nat} (C : cl_C p l s m args meth c cX6_outputByte RX6 2 (some .int) dd b) : ∀ (M : cl_M) (z0 : Int32) (r : Int32) (M' : cl_M), f_X6_outputByte_29 M z0 = some (r, M') → ∀ (H : Heap) (locs : List Loc) (ls : Array Slot), cl_H dd b M s H locs → lv_has ls 2 [] → W p l e { frames := 1, cells := 0, slots := 0, locals := 22 } s m args below meth c H locs 0 0 (cl_Zi below args s dd b r M') (F0 m 29 ls [.int z0]) := by
  have hx := C.1
  have hb := C.2.1
  have hlt := C.2.2.2.2.2.2.2.2.2.2
  have hRr := C.2.2.2.2.2.2.2.2.2.1
  intro M z0 r M' hf H locs ls hw hl
  unfold f_X6_outputByte_29 at hf
  obtain ⟨rfl, rfl⟩ := cl_pair hf
  exact cr_reti C hw dX6_outputByte_29
def f_X6_outputByte (M : cl_M) (t0 : Nat) (a1 : Int32) : Option (Int32 × cl_M) := cl_let (cl_ms M t0 4 0) (fun M1 => (f_X6_inRange M1 a1 0 ((M1 t0 18) - 1)).bind (fun v2 => if v2 = 0 then f_X6_outputByte_29 M1 (-1) else if cl_inb a1 24 = true then f_X6_outputByte_29 M1 (M1 (t0 + 9) (a1.toNatClampNeg)) else none))
set_option maxHeartbeats 4000000 in
set_option maxRecDepth 100000 in
theorem k_X6_outputByte {p : Program} {l : Launch} {e : Env} {s : State} {m : MethodId} {args : Array Value} {below : List Frame} {meth : Method} {c : Code} {dd : cl_D} {b : Nat} (C : cl_C p l s m args meth c cX6_outputByte RX6 2 (some .int) dd b) : ∀ (M : cl_M) (t0 : Nat) (a1 : Int32) (r : Int32) (M' : cl_M), f_X6_outputByte M t0 a1 = some (r, M') → ∀ (H : Heap) (locs : List Loc) (ls : Array Slot), cl_sh dd t0 = 6 → cl_H dd b M s H locs → lv_has ls 2 [(0, .ref (b + t0)), (1, .int a1)] → W p l e { frames := 1, cells := 0, slots := 0, locals := 22 } s m args below meth c H locs 0 0 (cl_Zi below args s dd b r M') (F0 m 0 ls []) := by
  have hx := C.1
  have hb := C.2.1
  have hlt := C.2.2.2.2.2.2.2.2.2.2
  have hRr := C.2.2.2.2.2.2.2.2.2.1
  intro M t0 a1 r M' hf H locs ls ht0 hw hl
  unfold f_X6_outputByte at hf
  refine lv_aload_n hx hb dX6_outputByte_0 rfl (lv_at hl 0 rfl) ?_
  refine lv_iconst (v := 0) hx hb dX6_outputByte_1 (by decide) ?_
  obtain ⟨M1, eM1, hf⟩ := cl_let_e hf
  refine fp_X6_60 C hw ht0 eM1 dX6_outputByte_2 (fun H locs hw => ?_)
  refine lv_iload_n hx hb dX6_outputByte_5 rfl (lv_at hl 1 rfl) ?_
  refine lv_iconst (v := 0) hx hb dX6_outputByte_6 (by decide) ?_
  refine lv_aload_n hx hb dX6_outputByte_7 rfl (lv_at hl 0 rfl) ?_
  refine fg_X6_357 C hw ht0 dX6_outputByte_8 ?_
  refine lv_iconst (v := 1) hx hb dX6_outputByte_11 (by decide) ?_
  refine lv_isub hx hb dX6_outputByte_12 ?_
  obtain ⟨v2, e3, hf⟩ := cl_bind_e hf
  refine cr_Si C hw (c_X6_inRange hlt e3) cy_X6_inRange st_X6_inRange ml_X6_63 (As := [.int a1, .int 0, .int ((M1 t0 18) - 1)]) rfl hl.1 rfl ⟨⟨Nat.le_of_ble_eq_true rfl, Nat.le_of_ble_eq_true rfl⟩, Nat.le_of_ble_eq_true rfl, Nat.le_of_ble_eq_true rfl, Nat.le_of_ble_eq_true rfl⟩ dX6_outputByte_13 (fun H locs hw => ?_)
  refine lv_if_eq (tgt := 28) hx hb dX6_outputByte_16 (by decide) (fun c4 => ?_) (fun c4 => ?_)
  · have hf := cl_yes c4 hf
    refine lv_iconst (v := (-1)) hx hb dX6_outputByte_28 (by decide) ?_
    exact k_X6_outputByte_29 C M1 (-1) _ _ hf _ _ _ hw (lv_sub hl [] rfl)
  · have hf := cl_no c4 hf
    refine lv_aload_n hx hb dX6_outputByte_19 rfl (lv_at hl 0 rfl) ?_
    refine fg_X6_39 C hw ht0 dX6_outputByte_20 ?_
    refine lv_iload_n hx hb dX6_outputByte_23 rfl (lv_at hl 1 rfl) ?_
    obtain ⟨q5, hf⟩ := cl_grd hf
    refine cr_iald C hw (sh_6_13 ht0).1 (sh_6_13 ht0).2 q5 (k := a1.toNatClampNeg) rfl dX6_outputByte_24 ?_
    refine lv_goto (tgt := 29) hx hb dX6_outputByte_25 (by decide) ?_
    exact k_X6_outputByte_29 C M1 (M1 (t0 + 9) (a1.toNatClampNeg)) _ _ hf _ _ _ hw (lv_sub hl [] rfl)
set_option maxRecDepth 100000 in
theorem c_X6_outputByte {l : Launch} {dd : cl_D} {b : Nat} (hlt : l.stackTraces = false) {M : cl_M} {t0 : Nat} {a1 : Int32}  {r : Int32} {M' : cl_M} (ht0 : cl_sh dd t0 = 6) (h : f_X6_outputByte M t0 a1 = some (r, M')) : cl_Mi l dd b yX6_outputByte cX6_outputByte 2 (some .int) 1 22 [.ref (b + t0), .int a1] M r M' :=
  cl_of hlt (by decide) (Nat.le_of_ble_eq_true rfl) (fun p e s m below meth c ls C hw hl => k_X6_outputByte C M t0 a1 r M' h _ _ _ ht0 hw (lv_sub hl [0, 1] rfl))
theorem cy_X6_outputByte : cl_cy yX6_outputByte cX6_outputByte 2 (some .int) 1 := ⟨in_ClothesLineModel, cd_X6_outputByte, by decide +kernel, by decide +kernel, by decide +kernel⟩
theorem vy_X6_outputByte : cl_vy yX6_outputByte := ⟨im_X6_outputByte, se_X6_outputByte⟩

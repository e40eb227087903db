def f_X3_bytesIn_22 (r5 : cl_M → Int32 → Int32 → Int32 → Option (Int32)) (M : cl_M) (a0 : Int32) (a1 : Int32) (a2 : Int32) : Option (Int32) := cl_let (a2 + (-8)) (fun v3 => r5 M a0 a1 v3)
set_option maxHeartbeats 4000000 in
set_option maxRecDepth 100000 in
theorem k_X3_bytesIn_22 {p : Program} {l : Launch} {e : Env} {s : State} {m : MethodId} {args : Array Value} {below : List Frame} {meth : Method} {c : Code} {dd : cl_D} {b : Nat} (C : cl_C p l s m args meth c cX3_bytesIn RX3 3 (some .int) dd b) {r5 : cl_M → Int32 → Int32 → Int32 → Option (Int32)} (hr5 : ∀ (M : cl_M) (a0 : Int32) (a1 : Int32) (a2 : Int32) (r : Int32), r5 M a0 a1 a2 = some r → ∀ (H : Heap) (locs : List Loc) (ls : Array Slot), cl_H dd b M s H locs → lv_has ls 3 [(0, .int a0), (1, .int a1), (2, .int a2)] → W p l e { frames := 0, cells := 0, slots := 0, locals := 0 } s m args below meth c H locs 0 0 (cl_Zi below args s dd b r M) (F0 m 5 ls [])) : ∀ (M : cl_M) (a0 : Int32) (a1 : Int32) (a2 : Int32) (r : Int32), f_X3_bytesIn_22 r5 M a0 a1 a2 = some r → ∀ (H : Heap) (locs : List Loc) (ls : Array Slot), cl_H dd b M s H locs → lv_has ls 3 [(0, .int a0), (1, .int a1), (2, .int a2)] → W p l e { frames := 0, cells := 0, slots := 0, locals := 0 } s m args below meth c H locs 0 0 (cl_Zi below args s dd b r M) (F0 m 22 ls []) := by
  have hx := C.1
  have hb := C.2.1
  have hlt := C.2.2.2.2.2.2.2.2.2.2
  have hRr := C.2.2.2.2.2.2.2.2.2.1
  intro M a0 a1 a2 r hf H locs ls hw hl
  unfold f_X3_bytesIn_22 at hf
  obtain ⟨v3, ev3, hf⟩ := cl_let_e hf
  refine lv_iinc (v := v3) (lv' := [(2, .int v3), (0, .int a0), (1, .int a1)]) hx hb dX3_bytesIn_22 hl (k := 2) rfl (by rw [ev3]; rfl) (by decide) rfl (fun ls hl => ?_)
  refine lv_goto (tgt := 5) hx hb dX3_bytesIn_25 (by decide) ?_
  exact hr5 M a0 a1 v3 _ hf _ _ _ hw (lv_sub hl [1, 2, 0] rfl)
def f_X3_bytesIn_5 : Nat → cl_M → Int32 → Int32 → Int32 → Option (Int32)
  | 0, _, _, _, _ => none
  | k + 1, M, a0, a1, a2 => if a2 < 0 then some a1 else if ((a0 >>> (a2 &&& 31)) &&& 255) = 0 then f_X3_bytesIn_22 (f_X3_bytesIn_5 k) M a0 a1 a2 else cl_let (a1 + 1) (fun v4 => f_X3_bytesIn_22 (f_X3_bytesIn_5 k) M a0 v4 a2)
set_option maxHeartbeats 4000000 in
set_option maxRecDepth 100000 in
theorem k_X3_bytesIn_5 {p : Program} {l : Launch} {e : Env} {s : State} {m : MethodId} {args : Array Value} {below : List Frame} {meth : Method} {c : Code} {dd : cl_D} {b : Nat} (C : cl_C p l s m args meth c cX3_bytesIn RX3 3 (some .int) dd b) : ∀ (k : Nat), ∀ (M : cl_M) (a0 : Int32) (a1 : Int32) (a2 : Int32) (r : Int32), f_X3_bytesIn_5 k M a0 a1 a2 = some r → ∀ (H : Heap) (locs : List Loc) (ls : Array Slot), cl_H dd b M s H locs → lv_has ls 3 [(0, .int a0), (1, .int a1), (2, .int a2)] → W p l e { frames := 0, cells := 0, slots := 0, locals := 0 } s m args below meth c H locs 0 0 (cl_Zi below args s dd b r M) (F0 m 5 ls []) := by
  have hx := C.1
  have hb := C.2.1
  have hlt := C.2.2.2.2.2.2.2.2.2.2
  have hRr := C.2.2.2.2.2.2.2.2.2.1
  intro k
  induction k with
  | zero =>
    intro M a0 a1 a2 r hf H locs ls hw hl
    rw [f_X3_bytesIn_5] at hf
    cases hf
  | succ k ih =>
    intro M a0 a1 a2 r hf H locs ls hw hl
    rw [f_X3_bytesIn_5] at hf
    refine lv_iload_n hx hb dX3_bytesIn_5 rfl (lv_at hl 2 rfl) ?_
    refine lv_if_lt (tgt := 28) hx hb dX3_bytesIn_6 (by decide) (fun c1 => ?_) (fun c1 => ?_)
    · have hf := cl_yes c1 hf
      refine lv_iload_n hx hb dX3_bytesIn_28 rfl (lv_at hl 1 rfl) ?_
      obtain rfl := Option.some.inj hf
      exact cr_reti C hw dX3_bytesIn_29
    · have hf := cl_no c1 hf
      refine lv_iload_n hx hb dX3_bytesIn_9 rfl (lv_at hl 0 rfl) ?_
      refine lv_iload_n hx hb dX3_bytesIn_10 rfl (lv_at hl 2 rfl) ?_
      refine lv_ishr hx hb dX3_bytesIn_11 ?_
      refine lv_sipush (v := 255) hx hb dX3_bytesIn_12 (by decide) ?_
      refine lv_iand hx hb dX3_bytesIn_15 ?_
      refine lv_if_eq (tgt := 22) hx hb dX3_bytesIn_16 (by decide) (fun c2 => ?_) (fun c2 => ?_)
      · have hf := cl_yes c2 hf
        exact k_X3_bytesIn_22 C ih M a0 a1 a2 _ hf _ _ _ hw (lv_sub hl [0, 1, 2] rfl)
      · have hf := cl_no c2 hf
        obtain ⟨v4, ev4, hf⟩ := cl_let_e hf
        refine lv_iinc (v := v4) (lv' := [(1, .int v4), (0, .int a0), (2, .int a2)]) hx hb dX3_bytesIn_19 hl (k := 1) rfl (by rw [ev4]; rfl) (by decide) rfl (fun ls hl => ?_)
        exact k_X3_bytesIn_22 C ih M a0 v4 a2 _ hf _ _ _ hw (lv_sub hl [1, 0, 2] rfl)
def f_X3_bytesIn (M : cl_M) (a0 : Int32) : Option (Int32) := f_X3_bytesIn_5 cl_F M a0 0 24
set_option maxHeartbeats 4000000 in
set_option maxRecDepth 100000 in
theorem k_X3_bytesIn {p : Program} {l : Launch} {e : Env} {s : State} {m : MethodId} {args : Array Value} {below : List Frame} {meth : Method} {c : Code} {dd : cl_D} {b : Nat} (C : cl_C p l s m args meth c cX3_bytesIn RX3 3 (some .int) dd b) : ∀ (M : cl_M) (a0 : Int32) (r : Int32), f_X3_bytesIn M a0 = some r → ∀ (H : Heap) (locs : List Loc) (ls : Array Slot), cl_H dd b M s H locs → lv_has ls 3 [(0, .int a0)] → W p l e { frames := 0, cells := 0, slots := 0, locals := 0 } s m args below meth c H locs 0 0 (cl_Zi below args s dd b r M) (F0 m 0 ls []) := by
  have hx := C.1
  have hb := C.2.1
  have hlt := C.2.2.2.2.2.2.2.2.2.2
  have hRr := C.2.2.2.2.2.2.2.2.2.1
  intro M a0 r hf H locs ls hw hl
  unfold f_X3_bytesIn at hf
  refine lv_iconst (v := 0) hx hb dX3_bytesIn_0 (by decide) ?_
  refine lv_istore_n (lv' := [(1, .int 0), (0, .int a0)]) hx hb dX3_bytesIn_1 rfl hl (by decide) rfl (fun ls hl => ?_)
  refine lv_bipush (v := 24) hx hb dX3_bytesIn_2 (by decide) ?_
  refine lv_istore_n (lv' := [(2, .int 24), (1, .int 0), (0, .int a0)]) hx hb dX3_bytesIn_4 rfl hl (by decide) rfl (fun ls hl => ?_)
  exact k_X3_bytesIn_5 C cl_F M a0 0 24 _ hf _ _ _ hw (lv_sub hl [2, 1, 0] rfl)
set_option maxRecDepth 100000 in
theorem c_X3_bytesIn {l : Launch} {dd : cl_D} {b : Nat} (hlt : l.stackTraces = false) {M : cl_M} {a0 : Int32}  {r : Int32} (h : f_X3_bytesIn M a0 = some r) : cl_Mi l dd b yX3_bytesIn cX3_bytesIn 3 (some .int) 0 0 [.int a0] M r M :=
  cl_of hlt (by decide) (Nat.le_of_ble_eq_true rfl) (fun p e s m below meth c ls C hw hl => k_X3_bytesIn C M a0 r h _ _ _ hw (lv_sub hl [0] rfl))
theorem cy_X3_bytesIn : cl_cy yX3_bytesIn cX3_bytesIn 3 (some .int) 1 := ⟨in_ClothesLine_TextReader, cd_X3_bytesIn, by decide +kernel, by decide +kernel, by decide +kernel⟩
def f_X3_appendByte (M : cl_M) (t0 : Nat) (a1 : Int32) : Option (cl_M) := if a1 = 0 then some M else if 700 ≤ (M t0 1) then some M else if cl_inb (M t0 1) 700 = true then cl_let (cl_ms M (t0 + 1) (M t0 1).toNatClampNeg a1) (fun M4 => cl_let (cl_ms M4 t0 1 ((M4 t0 1) + 1)) (fun M5 => some M5)) else none
set_option maxHeartbeats 4000000 in
set_option maxRecDepth 100000 in
theorem k_X3_appendByte {p : Program} {l : Launch} {e : Env} {s : State} {m : MethodId} {args : Array Value} {below : List Frame} {meth : Method} {c : Code} {dd : cl_D} {b : Nat} (C : cl_C p l s m args meth c cX3_appendByte RX3 2 none dd b) : ∀ (M : cl_M) (t0 : Nat) (a1 : Int32) (M' : cl_M), f_X3_appendByte M t0 a1 = some M' → ∀ (H : Heap) (locs : List Loc) (ls : Array Slot), cl_sh dd t0 = 3 → cl_H dd b M s H locs → lv_has ls 2 [(0, .ref (b + t0)), (1, .int a1)] → W p l e { frames := 0, cells := 0, slots := 0, locals := 0 } s m args below meth c H locs 0 0 (cl_Zv below args s dd b M') (F0 m 0 ls []) := by
  have hx := C.1
  have hb := C.2.1
  have hlt := C.2.2.2.2.2.2.2.2.2.2
  have hRr := C.2.2.2.2.2.2.2.2.2.1
  intro M t0 a1 M' hf H locs ls ht0 hw hl
  unfold f_X3_appendByte at hf
  refine lv_iload_n hx hb dX3_appendByte_0 rfl (lv_at hl 1 rfl) ?_
  refine lv_if_eq (tgt := 34) hx hb dX3_appendByte_1 (by decide) (fun c1 => ?_) (fun c1 => ?_)
  · have hf := cl_yes c1 hf
    obtain rfl := Option.some.inj hf
    exact cr_retv C hw dX3_appendByte_34
  · have hf := cl_no c1 hf
    refine lv_aload_n hx hb dX3_appendByte_4 rfl (lv_at hl 0 rfl) ?_
    refine fg_X3_26 C hw ht0 dX3_appendByte_5 ?_
    refine lv_sipush (v := 700) hx hb dX3_appendByte_8 (by decide) ?_
    refine lv_icmp_ge (tgt := 34) hx hb dX3_appendByte_11 (by decide) (fun c2 => ?_) (fun c2 => ?_)
    · have hf := cl_yes c2 hf
      obtain rfl := Option.some.inj hf
      exact cr_retv C hw dX3_appendByte_34
    · have hf := cl_no c2 hf
      refine lv_aload_n hx hb dX3_appendByte_14 rfl (lv_at hl 0 rfl) ?_
      refine fg_X3_9 C hw ht0 dX3_appendByte_15 ?_
      refine lv_aload_n hx hb dX3_appendByte_18 rfl (lv_at hl 0 rfl) ?_
      refine fg_X3_26 C hw ht0 dX3_appendByte_19 ?_
      refine lv_iload_n hx hb dX3_appendByte_22 rfl (lv_at hl 1 rfl) ?_
      obtain ⟨q3, hf⟩ := cl_grd hf
      obtain ⟨M4, eM4, hf⟩ := cl_let_e hf
      refine cr_iast C hw (sh_3_0 ht0).1 (sh_3_0 ht0).2 q3 (k := (M t0 1).toNatClampNeg) rfl eM4 dX3_appendByte_23 (fun H locs hw => ?_)
      refine lv_aload_n hx hb dX3_appendByte_24 rfl (lv_at hl 0 rfl) ?_
      refine lv_dup hx hb dX3_appendByte_25 rfl ?_
      refine fg_X3_26 C hw ht0 dX3_appendByte_26 ?_
      refine lv_iconst (v := 1) hx hb dX3_appendByte_29 (by decide) ?_
      refine lv_iadd hx hb dX3_appendByte_30 ?_
      obtain ⟨M5, eM5, hf⟩ := cl_let_e hf
      refine fp_X3_26 C hw ht0 eM5 dX3_appendByte_31 (fun H locs hw => ?_)
      obtain rfl := Option.some.inj hf
      exact cr_retv C hw dX3_appendByte_34
set_option maxRecDepth 100000 in
theorem c_X3_appendByte {l : Launch} {dd : cl_D} {b : Nat} (hlt : l.stackTraces = false) {M : cl_M} {t0 : Nat} {a1 : Int32}  {M' : cl_M} (ht0 : cl_sh dd t0 = 3) (h : f_X3_appendByte M t0 a1 = some M') : cl_Mv l dd b yX3_appendByte cX3_appendByte 2 none 0 0 [.ref (b + t0), .int a1] M M' :=
  cl_of hlt (by decide) (Nat.le_of_ble_eq_true rfl) (fun p e s m below meth c ls C hw hl => k_X3_appendByte C M t0 a1 M' h _ _ _ ht0 hw (lv_sub hl [0, 1] rfl))
theorem cy_X3_appendByte : cl_cy yX3_appendByte cX3_appendByte 2 none 1 := ⟨in_ClothesLine_TextReader, cd_X3_appendByte, by decide +kernel, by decide +kernel, by decide +kernel⟩
theorem vy_X3_appendByte : cl_vy yX3_appendByte := ⟨im_X3_appendByte, se_X3_appendByte⟩
def f_X3_appendBytes_3 : Nat → cl_M → Nat → Int32 → Int32 → Option (cl_M)
  | 0, _, _, _, _ => none
  | k + 1, M, t0, a1, a2 => if a2 < 0 then some M else (f_X3_appendByte M t0 ((a1 >>> (a2 &&& 31)) &&& 255)).bind (fun M2 => cl_let (a2 + (-8)) (fun v4 => f_X3_appendBytes_3 k M2 t0 a1 v4))
set_option maxHeartbeats 4000000 in
set_option maxRecDepth 100000 in
theorem k_X3_appendBytes_3 {p : Program} {l : Launch} {e : Env} {s : State} {m : MethodId} {args : Array Value} {below : List Frame} {meth : Method} {c : Code} {dd : cl_D} {b : Nat} (C : cl_C p l s m args meth c cX3_appendBytes RX3 3 none dd b) : ∀ (k : Nat), ∀ (M : cl_M) (t0 : Nat) (a1 : Int32) (a2 : Int32) (M' : cl_M), f_X3_appendBytes_3 k M t0 a1 a2 = some M' → ∀ (H : Heap) (locs : List Loc) (ls : Array Slot), cl_sh dd t0 = 3 → cl_H dd b M s H locs → lv_has ls 3 [(0, .ref (b + t0)), (1, .int a1), (2, .int a2)] → W p l e { frames := 1, cells := 0, slots := 0, locals := 21 } s m args below meth c H locs 0 0 (cl_Zv below args s dd b M') (F0 m 3 ls []) := by
  have hx := C.1
  have hb := C.2.1
  have hlt := C.2.2.2.2.2.2.2.2.2.2
  have hRr := C.2.2.2.2.2.2.2.2.2.1
  intro k
  induction k with
  | zero =>
    intro M t0 a1 a2 M' hf H locs ls ht0 hw hl
    rw [f_X3_appendBytes_3] at hf
    cases hf
  | succ k ih =>
    intro M t0 a1 a2 M' hf H locs ls ht0 hw hl
    rw [f_X3_appendBytes_3] at hf
    refine lv_iload_n hx hb dX3_appendBytes_3 rfl (lv_at hl 2 rfl) ?_
    refine lv_if_lt (tgt := 24) hx hb dX3_appendBytes_4 (by decide) (fun c1 => ?_) (fun c1 => ?_)
    · have hf := cl_yes c1 hf
      obtain rfl := Option.some.inj hf
      exact cr_retv C hw dX3_appendBytes_24
    · have hf := cl_no c1 hf
      refine lv_aload_n hx hb dX3_appendBytes_7 rfl (lv_at hl 0 rfl) ?_
      refine lv_iload_n hx hb dX3_appendBytes_8 rfl (lv_at hl 1 rfl) ?_
      refine lv_iload_n hx hb dX3_appendBytes_9 rfl (lv_at hl 2 rfl) ?_
      refine lv_ishr hx hb dX3_appendBytes_10 ?_
      refine lv_sipush (v := 255) hx hb dX3_appendBytes_11 (by decide) ?_
      refine lv_iand hx hb dX3_appendBytes_14 ?_
      obtain ⟨M2, e3, hf⟩ := cl_bind_e hf
      refine cr_Vv C hw (c_X3_appendByte hlt ht0 e3) cy_X3_appendByte vy_X3_appendByte ml_X3_42 (cl_lt ht0 (by decide)) (cl_e3 ht0) rfl rfl (As := [.int ((a1 >>> (a2 &&& 31)) &&& 255)]) rfl hl.1 rfl ⟨⟨Nat.le_of_ble_eq_true rfl, Nat.le_of_ble_eq_true rfl⟩, Nat.le_of_ble_eq_true rfl, Nat.le_of_ble_eq_true rfl, Nat.le_of_ble_eq_true rfl⟩ dX3_appendBytes_15 (fun H locs hw => ?_)
      obtain ⟨v4, ev4, hf⟩ := cl_let_e hf
      refine lv_iinc (v := v4) (lv' := [(2, .int v4), (0, .ref (b + t0)), (1, .int a1)]) hx hb dX3_appendBytes_18 hl (k := 2) rfl (by rw [ev4]; rfl) (by decide) rfl (fun ls hl => ?_)
      refine lv_goto (tgt := 3) hx hb dX3_appendBytes_21 (by decide) ?_
      exact ih M2 t0 a1 v4 _ hf _ _ _ ht0 hw (lv_sub hl [1, 2, 0] rfl)
def f_X3_appendBytes (M : cl_M) (t0 : Nat) (a1 : Int32) : Option (cl_M) := f_X3_appendBytes_3 cl_F M t0 a1 24
set_option maxHeartbeats 4000000 in
set_option maxRecDepth 100000 in
theorem k_X3_appendBytes {p : Program} {l : Launch} {e : Env} {s : State} {m : MethodId} {args : Array Value} {below : List Frame} {meth : Method} {c : Code} {dd : cl_D} {b : Nat} (C : cl_C p l s m args meth c cX3_appendBytes RX3 3 none dd b) : ∀ (M : cl_M) (t0 : Nat) (a1 : Int32) (M' : cl_M), f_X3_appendBytes M t0 a1 = some M' → ∀ (H : Heap) (locs : List Loc) (ls : Array Slot), cl_sh dd t0 = 3 → cl_H dd b M s H locs → lv_has ls 3 [(0, .ref (b + t0)), (1, .int a1)] → W p l e { frames := 1, cells := 0, slots := 0, locals := 21 } s m args below meth c H locs 0 0 (cl_Zv below args s dd b M') (F0 m 0 ls []) := by
  have hx := C.1
  have hb := C.2.1
  have hlt := C.2.2.2.2.2.2.2.2.2.2
  have hRr := C.2.2.2.2.2.2.2.2.2.1
  intro M t0 a1 M' hf H locs ls ht0 hw hl
  unfold f_X3_appendBytes at hf
  refine lv_bipush (v := 24) hx hb dX3_appendBytes_0 (by decide) ?_
  refine lv_istore_n (lv' := [(2, .int 24), (0, .ref (b + t0)), (1, .int a1)]) hx hb dX3_appendBytes_2 rfl hl (by decide) rfl (fun ls hl => ?_)
  exact k_X3_appendBytes_3 C cl_F M t0 a1 24 _ hf _ _ _ ht0 hw (lv_sub hl [1, 2, 0] rfl)
set_option maxRecDepth 100000 in
theorem c_X3_appendBytes {l : Launch} {dd : cl_D} {b : Nat} (hlt : l.stackTraces = false) {M : cl_M} {t0 : Nat} {a1 : Int32}  {M' : cl_M} (ht0 : cl_sh dd t0 = 3) (h : f_X3_appendBytes M t0 a1 = some M') : cl_Mv l dd b yX3_appendBytes cX3_appendBytes 3 none 1 21 [.ref (b + t0), .int a1] M M' :=
  cl_of hlt (by decide) (Nat.le_of_ble_eq_true rfl) (fun p e s m below meth c ls C hw hl => k_X3_appendBytes C M t0 a1 M' h _ _ _ ht0 hw (lv_sub hl [0, 1] rfl))
theorem cy_X3_appendBytes : cl_cy yX3_appendBytes cX3_appendBytes 3 none 1 := ⟨in_ClothesLine_TextReader, cd_X3_appendBytes, by decide +kernel, by decide +kernel, by decide +kernel⟩
theorem vy_X3_appendBytes : cl_vy yX3_appendBytes := ⟨im_X3_appendBytes, se_X3_appendBytes⟩
def f_X3_append (M : cl_M) (t0 : Nat) (a1 : Int32) (a2 : Int32) (a3 : Int32) (a4 : Int32) (a5 : Int32) : Option (Int32 × cl_M) := (f_X3_bytesIn M a1).bind (fun v1 => (f_X3_bytesIn M a2).bind (fun v3 => (f_X3_bytesIn M a3).bind (fun v5 => (f_X3_bytesIn M a4).bind (fun v7 => (f_X3_bytesIn M a5).bind (fun v9 => cl_let ((((v1 + v3) + v5) + v7) + v9) (fun v11 => if ((M t0 1) + v11) ≤ 700 then (f_X3_appendBytes M t0 a1).bind (fun M13 => (f_X3_appendBytes M13 t0 a2).bind (fun M15 => (f_X3_appendBytes M15 t0 a3).bind (fun M17 => (f_X3_appendBytes M17 t0 a4).bind (fun M19 => (f_X3_appendBytes M19 t0 a5).bind (fun M21 => some (M21 t0 1, M21)))))) else some ((-1), M)))))))
set_option maxHeartbeats 4000000 in
set_option maxRecDepth 100000 in
theorem k_X3_append {p : Program} {l : Launch} {e : Env} {s : State} {m : MethodId} {args : Array Value} {below : List Frame} {meth : Method} {c : Code} {dd : cl_D} {b : Nat} (C : cl_C p l s m args meth c cX3_append RX3 7 (some .int) dd b) : ∀ (M : cl_M) (t0 : Nat) (a1 : Int32) (a2 : Int32) (a3 : Int32) (a4 : Int32) (a5 : Int32) (r : Int32) (M' : cl_M), f_X3_append M t0 a1 a2 a3 a4 a5 = some (r, M') → ∀ (H : Heap) (locs : List Loc) (ls : Array Slot), cl_sh dd t0 = 3 → cl_H dd b M s H locs → lv_has ls 7 [(0, .ref (b + t0)), (1, .int a1), (2, .int a2), (3, .int a3), (4, .int a4), (5, .int a5)] → W p l e { frames := 2, cells := 0, slots := 0, locals := 43 } s m args below meth c H locs 0 0 (cl_Zi below args s dd b r M') (F0 m 0 ls []) := by
  have hx := C.1
  have hb := C.2.1
  have hlt := C.2.2.2.2.2.2.2.2.2.2
  have hRr := C.2.2.2.2.2.2.2.2.2.1
  intro M t0 a1 a2 a3 a4 a5 r M' hf H locs ls ht0 hw hl
  unfold f_X3_append at hf
  refine lv_iload_n hx hb dX3_append_0 rfl (lv_at hl 1 rfl) ?_
  obtain ⟨v1, e2, hf⟩ := cl_bind_e hf
  refine cr_Si C hw (c_X3_bytesIn hlt e2) cy_X3_bytesIn st_X3_bytesIn ml_X3_22 (As := [.int a1]) rfl hl.1 rfl ⟨⟨Nat.le_of_ble_eq_true rfl, Nat.le_of_ble_eq_true rfl⟩, Nat.le_of_ble_eq_true rfl, Nat.le_of_ble_eq_true rfl, Nat.le_of_ble_eq_true rfl⟩ dX3_append_1 (fun H locs hw => ?_)
  refine lv_iload_n hx hb dX3_append_4 rfl (lv_at hl 2 rfl) ?_
  obtain ⟨v3, e4, hf⟩ := cl_bind_e hf
  refine cr_Si C hw (c_X3_bytesIn hlt e4) cy_X3_bytesIn st_X3_bytesIn ml_X3_22 (As := [.int a2]) rfl hl.1 rfl ⟨⟨Nat.le_of_ble_eq_true rfl, Nat.le_of_ble_eq_true rfl⟩, Nat.le_of_ble_eq_true rfl, Nat.le_of_ble_eq_true rfl, Nat.le_of_ble_eq_true rfl⟩ dX3_append_5 (fun H locs hw => ?_)
  refine lv_iadd hx hb dX3_append_8 ?_
  refine lv_iload_n hx hb dX3_append_9 rfl (lv_at hl 3 rfl) ?_
  obtain ⟨v5, e6, hf⟩ := cl_bind_e hf
  refine cr_Si C hw (c_X3_bytesIn hlt e6) cy_X3_bytesIn st_X3_bytesIn ml_X3_22 (As := [.int a3]) rfl hl.1 rfl ⟨⟨Nat.le_of_ble_eq_true rfl, Nat.le_of_ble_eq_true rfl⟩, Nat.le_of_ble_eq_true rfl, Nat.le_of_ble_eq_true rfl, Nat.le_of_ble_eq_true rfl⟩ dX3_append_10 (fun H locs hw => ?_)
  refine lv_iadd hx hb dX3_append_13 ?_
  refine lv_iload hx hb dX3_append_14 (lv_at hl 4 rfl) ?_
  obtain ⟨v7, e8, hf⟩ := cl_bind_e hf
  refine cr_Si C hw (c_X3_bytesIn hlt e8) cy_X3_bytesIn st_X3_bytesIn ml_X3_22 (As := [.int a4]) rfl hl.1 rfl ⟨⟨Nat.le_of_ble_eq_true rfl, Nat.le_of_ble_eq_true rfl⟩, Nat.le_of_ble_eq_true rfl, Nat.le_of_ble_eq_true rfl, Nat.le_of_ble_eq_true rfl⟩ dX3_append_16 (fun H locs hw => ?_)
  refine lv_iadd hx hb dX3_append_19 ?_
  refine lv_iload hx hb dX3_append_20 (lv_at hl 5 rfl) ?_
  obtain ⟨v9, e10, hf⟩ := cl_bind_e hf
  refine cr_Si C hw (c_X3_bytesIn hlt e10) cy_X3_bytesIn st_X3_bytesIn ml_X3_22 (As := [.int a5]) rfl hl.1 rfl ⟨⟨Nat.le_of_ble_eq_true rfl, Nat.le_of_ble_eq_true rfl⟩, Nat.le_of_ble_eq_true rfl, Nat.le_of_ble_eq_true rfl, Nat.le_of_ble_eq_true rfl⟩ dX3_append_22 (fun H locs hw => ?_)
  refine lv_iadd hx hb dX3_append_25 ?_
  obtain ⟨v11, ev11, hf⟩ := cl_let_e hf
  refine cr_top ev11 ?_
  refine lv_istore (lv' := [(6, .int v11), (0, .ref (b + t0)), (1, .int a1), (2, .int a2), (3, .int a3), (4, .int a4), (5, .int a5)]) hx hb dX3_append_26 hl (by decide) rfl (fun ls hl => ?_)
  refine lv_aload_n hx hb dX3_append_28 rfl (lv_at hl 1 rfl) ?_
  refine fg_X3_26 C hw ht0 dX3_append_29 ?_
  refine lv_iload hx hb dX3_append_32 (lv_at hl 0 rfl) ?_
  refine lv_iadd hx hb dX3_append_34 ?_
  refine lv_sipush (v := 700) hx hb dX3_append_35 (by decide) ?_
  refine lv_icmp_le (tgt := 43) hx hb dX3_append_38 (by decide) (fun c12 => ?_) (fun c12 => ?_)
  · have hf := cl_yes c12 hf
    refine lv_aload_n hx hb dX3_append_43 rfl (lv_at hl 1 rfl) ?_
    refine lv_iload_n hx hb dX3_append_44 rfl (lv_at hl 2 rfl) ?_
    obtain ⟨M13, e14, hf⟩ := cl_bind_e hf
    refine cr_Vv C hw (c_X3_appendBytes hlt ht0 e14) cy_X3_appendBytes vy_X3_appendBytes ml_X3_29 (cl_lt ht0 (by decide)) (cl_e3 ht0) rfl rfl (As := [.int a1]) rfl hl.1 rfl ⟨⟨Nat.le_of_ble_eq_true rfl, Nat.le_of_ble_eq_true rfl⟩, Nat.le_of_ble_eq_true rfl, Nat.le_of_ble_eq_true rfl, Nat.le_of_ble_eq_true rfl⟩ dX3_append_45 (fun H locs hw => ?_)
    refine lv_aload_n hx hb dX3_append_48 rfl (lv_at hl 1 rfl) ?_
    refine lv_iload_n hx hb dX3_append_49 rfl (lv_at hl 3 rfl) ?_
    obtain ⟨M15, e16, hf⟩ := cl_bind_e hf
    refine cr_Vv C hw (c_X3_appendBytes hlt ht0 e16) cy_X3_appendBytes vy_X3_appendBytes ml_X3_29 (cl_lt ht0 (by decide)) (cl_e3 ht0) rfl rfl (As := [.int a2]) rfl hl.1 rfl ⟨⟨Nat.le_of_ble_eq_true rfl, Nat.le_of_ble_eq_true rfl⟩, Nat.le_of_ble_eq_true rfl, Nat.le_of_ble_eq_true rfl, Nat.le_of_ble_eq_true rfl⟩ dX3_append_50 (fun H locs hw => ?_)
    refine lv_aload_n hx hb dX3_append_53 rfl (lv_at hl 1 rfl) ?_
    refine lv_iload_n hx hb dX3_append_54 rfl (lv_at hl 4 rfl) ?_
    obtain ⟨M17, e18, hf⟩ := cl_bind_e hf
    refine cr_Vv C hw (c_X3_appendBytes hlt ht0 e18) cy_X3_appendBytes vy_X3_appendBytes ml_X3_29 (cl_lt ht0 (by decide)) (cl_e3 ht0) rfl rfl (As := [.int a3]) rfl hl.1 rfl ⟨⟨Nat.le_of_ble_eq_true rfl, Nat.le_of_ble_eq_true rfl⟩, Nat.le_of_ble_eq_true rfl, Nat.le_of_ble_eq_true rfl, Nat.le_of_ble_eq_true rfl⟩ dX3_append_55 (fun H locs hw => ?_)
    refine lv_aload_n hx hb dX3_append_58 rfl (lv_at hl 1 rfl) ?_
    refine lv_iload hx hb dX3_append_59 (lv_at hl 5 rfl) ?_
    obtain ⟨M19, e20, hf⟩ := cl_bind_e hf
    refine cr_Vv C hw (c_X3_appendBytes hlt ht0 e20) cy_X3_appendBytes vy_X3_appendBytes ml_X3_29 (cl_lt ht0 (by decide)) (cl_e3 ht0) rfl rfl (As := [.int a4]) rfl hl.1 rfl ⟨⟨Nat.le_of_ble_eq_true rfl, Nat.le_of_ble_eq_true rfl⟩, Nat.le_of_ble_eq_true rfl, Nat.le_of_ble_eq_true rfl, Nat.le_of_ble_eq_true rfl⟩ dX3_append_61 (fun H locs hw => ?_)
    refine lv_aload_n hx hb dX3_append_64 rfl (lv_at hl 1 rfl) ?_
    refine lv_iload hx hb dX3_append_65 (lv_at hl 6 rfl) ?_
    obtain ⟨M21, e22, hf⟩ := cl_bind_e hf
    refine cr_Vv C hw (c_X3_appendBytes hlt ht0 e22) cy_X3_appendBytes vy_X3_appendBytes ml_X3_29 (cl_lt ht0 (by decide)) (cl_e3 ht0) rfl rfl (As := [.int a5]) rfl hl.1 rfl ⟨⟨Nat.le_of_ble_eq_true rfl, Nat.le_of_ble_eq_true rfl⟩, Nat.le_of_ble_eq_true rfl, Nat.le_of_ble_eq_true rfl, Nat.le_of_ble_eq_true rfl⟩ dX3_append_67 (fun H locs hw => ?_)
    refine lv_aload_n hx hb dX3_append_70 rfl (lv_at hl 1 rfl) ?_
    refine fg_X3_26 C hw ht0 dX3_append_71 ?_
    obtain ⟨rfl, rfl⟩ := cl_pair hf
    exact cr_reti C hw dX3_append_74
  · have hf := cl_no c12 hf
    refine lv_iconst (v := (-1)) hx hb dX3_append_41 (by decide) ?_
    obtain ⟨rfl, rfl⟩ := cl_pair hf
    exact cr_reti C hw dX3_append_42
set_option maxRecDepth 100000 in
theorem c_X3_append {l : Launch} {dd : cl_D} {b : Nat} (hlt : l.stackTraces = false) {M : cl_M} {t0 : Nat} {a1 : Int32} {a2 : Int32} {a3 : Int32} {a4 : Int32} {a5 : Int32}  {r : Int32} {M' : cl_M} (ht0 : cl_sh dd t0 = 3) (h : f_X3_append M t0 a1 a2 a3 a4 a5 = some (r, M')) : cl_Mi l dd b yX3_append cX3_append 7 (some .int) 2 43 [.ref (b + t0), .int a1, .int a2, .int a3, .int a4, .int a5] M r M' :=
  cl_of hlt (by decide) (Nat.le_of_ble_eq_true rfl) (fun p e s m below meth c ls C hw hl => k_X3_append C M t0 a1 a2 a3 a4 a5 r M' h _ _ _ ht0 hw (lv_sub hl [0, 1, 2, 3, 4, 5] rfl))
theorem cy_X3_append : cl_cy yX3_append cX3_append 7 (some .int) 5 := ⟨in_ClothesLine_TextReader, cd_X3_append, by decide +kernel, by decide +kernel, by decide +kernel⟩
theorem vy_X3_append : cl_vy yX3_append := ⟨im_X3_append, se_X3_append⟩
def f_X3_appendText_2 : Nat → cl_M → Nat → Nat → Int32 → Option (cl_M)
  | 0, _, _, _, _ => none
  | k + 1, M, t0, i1, a2 => if (nI (cl_sl i1)) ≤ a2 then some M else if cl_inb a2 (cl_sl i1) = true then (f_X3_appendByte M t0 (cl_ch i1 (a2).toNatClampNeg)).bind (fun M3 => cl_let (a2 + 1) (fun v5 => f_X3_appendText_2 k M3 t0 i1 v5)) else none
set_option maxHeartbeats 4000000 in
set_option maxRecDepth 100000 in
theorem k_X3_appendText_2 {p : Program} {l : Launch} {e : Env} {s : State} {m : MethodId} {args : Array Value} {below : List Frame} {meth : Method} {c : Code} {dd : cl_D} {b : Nat} (C : cl_C p l s m args meth c cX3_appendText RX3 3 none dd b) : ∀ (k : Nat), ∀ (M : cl_M) (t0 : Nat) (i1 : Nat) (a2 : Int32) (M' : cl_M), f_X3_appendText_2 k M t0 i1 a2 = some M' → ∀ (H : Heap) (locs : List Loc) (ls : Array Slot), cl_sh dd t0 = 3 → i1 < 29 → cl_H dd b M s H locs → lv_has ls 3 [(0, .ref (b + t0)), (1, .ref (dd.2.2.1 i1)), (2, .int a2)] → W p l e { frames := 4, cells := 0, slots := 0, locals := 85 } s m args below meth c H locs 0 0 (cl_Zv below args s dd b M') (F0 m 2 ls []) := by
  have hx := C.1
  have hb := C.2.1
  have hlt := C.2.2.2.2.2.2.2.2.2.2
  have hRr := C.2.2.2.2.2.2.2.2.2.1
  intro k
  induction k with
  | zero =>
    intro M t0 i1 a2 M' hf H locs ls ht0 hi1 hw hl
    rw [f_X3_appendText_2] at hf
    cases hf
  | succ k ih =>
    intro M t0 i1 a2 M' hf H locs ls ht0 hi1 hw hl
    rw [f_X3_appendText_2] at hf
    refine lv_iload_n hx hb dX3_appendText_2 rfl (lv_at hl 2 rfl) ?_
    refine lv_aload_n hx hb dX3_appendText_3 rfl (lv_at hl 1 rfl) ?_
    refine cr_slen C hw hi1 ml_X3_33 hl.1 rfl ⟨⟨Nat.le_of_ble_eq_true rfl, Nat.le_of_ble_eq_true rfl⟩, Nat.le_of_ble_eq_true rfl, Nat.le_of_ble_eq_true rfl, Nat.le_of_ble_eq_true rfl⟩ dX3_appendText_4 (fun H locs hw => ?_)
    refine lv_icmp_ge (tgt := 25) hx hb dX3_appendText_7 (by decide) (fun c1 => ?_) (fun c1 => ?_)
    · have hf := cl_yes c1 hf
      obtain rfl := Option.some.inj hf
      exact cr_retv C hw dX3_appendText_25
    · have hf := cl_no c1 hf
      refine lv_aload_n hx hb dX3_appendText_10 rfl (lv_at hl 0 rfl) ?_
      refine lv_aload_n hx hb dX3_appendText_11 rfl (lv_at hl 1 rfl) ?_
      refine lv_iload_n hx hb dX3_appendText_12 rfl (lv_at hl 2 rfl) ?_
      obtain ⟨q2, hf⟩ := cl_grd hf
      refine cr_schar C hw hi1 q2 ml_X3_38 hl.1 rfl ⟨⟨Nat.le_of_ble_eq_true rfl, Nat.le_of_ble_eq_true rfl⟩, Nat.le_of_ble_eq_true rfl, Nat.le_of_ble_eq_true rfl, Nat.le_of_ble_eq_true rfl⟩ dX3_appendText_13 (fun H locs hw => ?_)
      obtain ⟨M3, e4, hf⟩ := cl_bind_e hf
      refine cr_Vv C hw (c_X3_appendByte hlt ht0 e4) cy_X3_appendByte vy_X3_appendByte ml_X3_42 (cl_lt ht0 (by decide)) (cl_e3 ht0) rfl rfl (As := [.int (cl_ch i1 (a2).toNatClampNeg)]) rfl hl.1 rfl ⟨⟨Nat.le_of_ble_eq_true rfl, Nat.le_of_ble_eq_true rfl⟩, Nat.le_of_ble_eq_true rfl, Nat.le_of_ble_eq_true rfl, Nat.le_of_ble_eq_true rfl⟩ dX3_appendText_16 (fun H locs hw => ?_)
      obtain ⟨v5, ev5, hf⟩ := cl_let_e hf
      refine lv_iinc (v := v5) (lv' := [(2, .int v5), (0, .ref (b + t0)), (1, .ref (dd.2.2.1 i1))]) hx hb dX3_appendText_19 hl (k := 2) rfl (by rw [ev5]; rfl) (by decide) rfl (fun ls hl => ?_)
      refine lv_goto (tgt := 2) hx hb dX3_appendText_22 (by decide) ?_
      exact ih M3 t0 i1 v5 _ hf _ _ _ ht0 hi1 hw (lv_sub hl [1, 2, 0] rfl)
def f_X3_appendText (M : cl_M) (t0 : Nat) (i1 : Nat) : Option (cl_M) := f_X3_appendText_2 cl_F M t0 i1 0
set_option maxHeartbeats 4000000 in
set_option maxRecDepth 100000 in
theorem k_X3_appendText {p : Program} {l : Launch} {e : Env} {s : State} {m : MethodId} {args : Array Value} {below : List Frame} {meth : Method} {c : Code} {dd : cl_D} {b : Nat} (C : cl_C p l s m args meth c cX3_appendText RX3 3 none dd b) : ∀ (M : cl_M) (t0 : Nat) (i1 : Nat) (M' : cl_M), f_X3_appendText M t0 i1 = some M' → ∀ (H : Heap) (locs : List Loc) (ls : Array Slot), cl_sh dd t0 = 3 → i1 < 29 → cl_H dd b M s H locs → lv_has ls 3 [(0, .ref (b + t0)), (1, .ref (dd.2.2.1 i1))] → W p l e { frames := 4, cells := 0, slots := 0, locals := 85 } s m args below meth c H locs 0 0 (cl_Zv below args s dd b M') (F0 m 0 ls []) := by
  have hx := C.1
  have hb := C.2.1
  have hlt := C.2.2.2.2.2.2.2.2.2.2
  have hRr := C.2.2.2.2.2.2.2.2.2.1
  intro M t0 i1 M' hf H locs ls ht0 hi1 hw hl
  unfold f_X3_appendText at hf
  refine lv_iconst (v := 0) hx hb dX3_appendText_0 (by decide) ?_
  refine lv_istore_n (lv' := [(2, .int 0), (0, .ref (b + t0)), (1, .ref (dd.2.2.1 i1))]) hx hb dX3_appendText_1 rfl hl (by decide) rfl (fun ls hl => ?_)
  exact k_X3_appendText_2 C cl_F M t0 i1 0 _ hf _ _ _ ht0 hi1 hw (lv_sub hl [1, 2, 0] rfl)
set_option maxRecDepth 100000 in
theorem c_X3_appendText {l : Launch} {dd : cl_D} {b : Nat} (hlt : l.stackTraces = false) {M : cl_M} {t0 : Nat} {i1 : Nat}  {M' : cl_M} (ht0 : cl_sh dd t0 = 3) (hi1 : i1 < 29) (h : f_X3_appendText M t0 i1 = some M') : cl_Mv l dd b yX3_appendText cX3_appendText 3 none 4 85 [.ref (b + t0), .ref (dd.2.2.1 i1)] M M' :=
  cl_of hlt (by decide) (Nat.le_of_ble_eq_true rfl) (fun p e s m below meth c ls C hw hl => k_X3_appendText C M t0 i1 M' h _ _ _ ht0 hi1 hw (lv_sub hl [0, 1] rfl))
theorem cy_X3_appendText : cl_cy yX3_appendText cX3_appendText 3 none 1 := ⟨in_ClothesLine_TextReader, cd_X3_appendText, by decide +kernel, by decide +kernel, by decide +kernel⟩
theorem vy_X3_appendText : cl_vy yX3_appendText := ⟨im_X3_appendText, se_X3_appendText⟩
def f_X3_clear (M : cl_M) (t0 : Nat) : Option (cl_M) := cl_let (cl_ms M t0 1 0) (fun M1 => some M1)
set_option maxHeartbeats 4000000 in
set_option maxRecDepth 100000 in
theorem k_X3_clear {p : Program} {l : Launch} {e : Env} {s : State} {m : MethodId} {args : Array Value} {below : List Frame} {meth : Method} {c : Code} {dd : cl_D} {b : Nat} (C : cl_C p l s m args meth c cX3_clear RX3 1 none dd b) : ∀ (M : cl_M) (t0 : Nat) (M' : cl_M), f_X3_clear M t0 = some M' → ∀ (H : Heap) (locs : List Loc) (ls : Array Slot), cl_sh dd t0 = 3 → cl_H dd b M s H locs → lv_has ls 1 [(0, .ref (b + t0))] → W p l e { frames := 0, cells := 0, slots := 0, locals := 0 } s m args below meth c H locs 0 0 (cl_Zv below args s dd b M') (F0 m 0 ls []) := by
  have hx := C.1
  have hb := C.2.1
  have hlt := C.2.2.2.2.2.2.2.2.2.2
  have hRr := C.2.2.2.2.2.2.2.2.2.1
  intro M t0 M' hf H locs ls ht0 hw hl
  unfold f_X3_clear at hf
  refine lv_aload_n hx hb dX3_clear_0 rfl (lv_at hl 0 rfl) ?_
  refine lv_iconst (v := 0) hx hb dX3_clear_1 (by decide) ?_
  obtain ⟨M1, eM1, hf⟩ := cl_let_e hf
  refine fp_X3_26 C hw ht0 eM1 dX3_clear_2 (fun H locs hw => ?_)
  obtain rfl := Option.some.inj hf
  exact cr_retv C hw dX3_clear_5
set_option maxRecDepth 100000 in
theorem c_X3_clear {l : Launch} {dd : cl_D} {b : Nat} (hlt : l.stackTraces = false) {M : cl_M} {t0 : Nat}  {M' : cl_M} (ht0 : cl_sh dd t0 = 3) (h : f_X3_clear M t0 = some M') : cl_Mv l dd b yX3_clear cX3_clear 1 none 0 0 [.ref (b + t0)] M M' :=
  cl_of hlt (by decide) (Nat.le_of_ble_eq_true rfl) (fun p e s m below meth c ls C hw hl => k_X3_clear C M t0 M' h _ _ _ ht0 hw (lv_sub hl [0] rfl))
theorem cy_X3_clear : cl_cy yX3_clear cX3_clear 1 none 0 := ⟨in_ClothesLine_TextReader, cd_X3_clear, by decide +kernel, by decide +kernel, by decide +kernel⟩
theorem vy_X3_clear : cl_vy yX3_clear := ⟨im_X3_clear, se_X3_clear⟩
def f_X3_begin (M : cl_M) (t0 : Nat) : Option (cl_M) := cl_let (cl_ms M t0 2 0) (fun M1 => cl_let (cl_ms M1 t0 8 0) (fun M2 => cl_let (cl_ms M2 t0 9 (-1)) (fun M3 => some M3)))
set_option maxHeartbeats 4000000 in
set_option maxRecDepth 100000 in
theorem k_X3_begin {p : Program} {l : Launch} {e : Env} {s : State} {m : MethodId} {args : Array Value} {below : List Frame} {meth : Method} {c : Code} {dd : cl_D} {b : Nat} (C : cl_C p l s m args meth c cX3_begin RX3 1 none dd b) : ∀ (M : cl_M) (t0 : Nat) (M' : cl_M), f_X3_begin M t0 = some M' → ∀ (H : Heap) (locs : List Loc) (ls : Array Slot), cl_sh dd t0 = 3 → cl_H dd b M s H locs → lv_has ls 1 [(0, .ref (b + t0))] → W p l e { frames := 0, cells := 0, slots := 0, locals := 0 } s m args below meth c H locs 0 0 (cl_Zv below args s dd b M') (F0 m 0 ls []) := by
  have hx := C.1
  have hb := C.2.1
  have hlt := C.2.2.2.2.2.2.2.2.2.2
  have hRr := C.2.2.2.2.2.2.2.2.2.1
  intro M t0 M' hf H locs ls ht0 hw hl
  unfold f_X3_begin at hf
  refine lv_aload_n hx hb dX3_begin_0 rfl (lv_at hl 0 rfl) ?_
  refine lv_iconst (v := 0) hx hb dX3_begin_1 (by decide) ?_
  obtain ⟨M1, eM1, hf⟩ := cl_let_e hf
  refine fp_X3_45 C hw ht0 eM1 dX3_begin_2 (fun H locs hw => ?_)
  refine lv_aload_n hx hb dX3_begin_5 rfl (lv_at hl 0 rfl) ?_
  refine lv_iconst (v := 0) hx hb dX3_begin_6 (by decide) ?_
  obtain ⟨M2, eM2, hf⟩ := cl_let_e hf
  refine fp_X3_48 C hw ht0 eM2 dX3_begin_7 (fun H locs hw => ?_)
  refine lv_aload_n hx hb dX3_begin_10 rfl (lv_at hl 0 rfl) ?_
  refine lv_iconst (v := (-1)) hx hb dX3_begin_11 (by decide) ?_
  obtain ⟨M3, eM3, hf⟩ := cl_let_e hf
  refine fp_X3_18 C hw ht0 eM3 dX3_begin_12 (fun H locs hw => ?_)
  obtain rfl := Option.some.inj hf
  exact cr_retv C hw dX3_begin_15
set_option maxRecDepth 100000 in
theorem c_X3_begin {l : Launch} {dd : cl_D} {b : Nat} (hlt : l.stackTraces = false) {M : cl_M} {t0 : Nat}  {M' : cl_M} (ht0 : cl_sh dd t0 = 3) (h : f_X3_begin M t0 = some M') : cl_Mv l dd b yX3_begin cX3_begin 1 none 0 0 [.ref (b + t0)] M M' :=
  cl_of hlt (by decide) (Nat.le_of_ble_eq_true rfl) (fun p e s m below meth c ls C hw hl => k_X3_begin C M t0 M' h _ _ _ ht0 hw (lv_sub hl [0] rfl))
theorem cy_X3_begin : cl_cy yX3_begin cX3_begin 1 none 0 := ⟨in_ClothesLine_TextReader, cd_X3_begin, by decide +kernel, by decide +kernel, by decide +kernel⟩
theorem vy_X3_begin : cl_vy yX3_begin := ⟨im_X3_begin, se_X3_begin⟩
def f_X3_isLetter_17 (M : cl_M) (z0 : Int32) : Option (Int32) := if cl_bz z0 = true then some z0 else none
set_option maxHeartbeats 4000000 in
set_option maxRecDepth 100000 in
theorem k_X3_isLetter_17 {p : Program} {l : Launch} {e : Env} {s : State} {m : MethodId} {args : Array Value} {below : List Frame} {meth : Method} {c : Code} {dd : cl_D} {b : Nat} (C : cl_C p l s m args meth c cX3_isLetter RX3 1 (some .boolean) dd b) : ∀ (M : cl_M) (z0 : Int32) (r : Int32), f_X3_isLetter_17 M z0 = some r → ∀ (H : Heap) (locs : List Loc) (ls : Array Slot), cl_H dd b M s H locs → lv_has ls 1 [] → W p l e { frames := 0, cells := 0, slots := 0, locals := 0 } s m args below meth c H locs 0 0 (cl_Zi below args s dd b r M) (F0 m 17 ls [.int z0]) := by
  have hx := C.1
  have hb := C.2.1
  have hlt := C.2.2.2.2.2.2.2.2.2.2
  have hRr := C.2.2.2.2.2.2.2.2.2.1
  intro M z0 r hf H locs ls hw hl
  unfold f_X3_isLetter_17 at hf
  obtain ⟨q2, hf⟩ := cl_grd hf
  obtain rfl := Option.some.inj hf
  exact cr_retz C hw q2 dX3_isLetter_17
def f_X3_isLetter (M : cl_M) (a0 : Int32) : Option (Int32) := if a0 < 97 then f_X3_isLetter_17 M 0 else if 122 < a0 then f_X3_isLetter_17 M 0 else f_X3_isLetter_17 M 1
set_option maxHeartbeats 4000000 in
set_option maxRecDepth 100000 in
theorem k_X3_isLetter {p : Program} {l : Launch} {e : Env} {s : State} {m : MethodId} {args : Array Value} {below : List Frame} {meth : Method} {c : Code} {dd : cl_D} {b : Nat} (C : cl_C p l s m args meth c cX3_isLetter RX3 1 (some .boolean) dd b) : ∀ (M : cl_M) (a0 : Int32) (r : Int32), f_X3_isLetter M a0 = some r → ∀ (H : Heap) (locs : List Loc) (ls : Array Slot), cl_H dd b M s H locs → lv_has ls 1 [(0, .int a0)] → W p l e { frames := 0, cells := 0, slots := 0, locals := 0 } s m args below meth c H locs 0 0 (cl_Zi below args s dd b r M) (F0 m 0 ls []) := by
  have hx := C.1
  have hb := C.2.1
  have hlt := C.2.2.2.2.2.2.2.2.2.2
  have hRr := C.2.2.2.2.2.2.2.2.2.1
  intro M a0 r hf H locs ls hw hl
  unfold f_X3_isLetter at hf
  refine lv_iload_n hx hb dX3_isLetter_0 rfl (lv_at hl 0 rfl) ?_
  refine lv_bipush (v := 97) hx hb dX3_isLetter_1 (by decide) ?_
  refine lv_icmp_lt (tgt := 16) hx hb dX3_isLetter_3 (by decide) (fun c1 => ?_) (fun c1 => ?_)
  · have hf := cl_yes c1 hf
    refine lv_iconst (v := 0) hx hb dX3_isLetter_16 (by decide) ?_
    exact k_X3_isLetter_17 C M 0 _ hf _ _ _ hw (lv_sub hl [] rfl)
  · have hf := cl_no c1 hf
    refine lv_iload_n hx hb dX3_isLetter_6 rfl (lv_at hl 0 rfl) ?_
    refine lv_bipush (v := 122) hx hb dX3_isLetter_7 (by decide) ?_
    refine lv_icmp_gt (tgt := 16) hx hb dX3_isLetter_9 (by decide) (fun c3 => ?_) (fun c3 => ?_)
    · have hf := cl_yes c3 hf
      refine lv_iconst (v := 0) hx hb dX3_isLetter_16 (by decide) ?_
      exact k_X3_isLetter_17 C M 0 _ hf _ _ _ hw (lv_sub hl [] rfl)
    · have hf := cl_no c3 hf
      refine lv_iconst (v := 1) hx hb dX3_isLetter_12 (by decide) ?_
      refine lv_goto (tgt := 17) hx hb dX3_isLetter_13 (by decide) ?_
      exact k_X3_isLetter_17 C M 1 _ hf _ _ _ hw (lv_sub hl [] rfl)
set_option maxRecDepth 100000 in
theorem c_X3_isLetter {l : Launch} {dd : cl_D} {b : Nat} (hlt : l.stackTraces = false) {M : cl_M} {a0 : Int32}  {r : Int32} (h : f_X3_isLetter M a0 = some r) : cl_Mi l dd b yX3_isLetter cX3_isLetter 1 (some .boolean) 0 0 [.int a0] M r M :=
  cl_of hlt (by decide) (Nat.le_of_ble_eq_true rfl) (fun p e s m below meth c ls C hw hl => k_X3_isLetter C M a0 r h _ _ _ hw (lv_sub hl [0] rfl))
theorem cy_X3_isLetter : cl_cy yX3_isLetter cX3_isLetter 1 (some .boolean) 1 := ⟨in_ClothesLine_TextReader, cd_X3_isLetter, by decide +kernel, by decide +kernel, by decide +kernel⟩
def f_X3_passLetters_0 : Nat → cl_M → Nat → Option (cl_M)
  | 0, _, _ => none
  | k + 1, M, t0 => if (M t0 1) ≤ (M t0 2) then some M else if cl_inb (M t0 2) 700 = true then (f_X3_isLetter M (M (t0 + 1) ((M t0 2).toNatClampNeg))).bind (fun v3 => if v3 = 0 then some M else cl_let (cl_ms M t0 2 ((M t0 2) + 1)) (fun M6 => f_X3_passLetters_0 k M6 t0)) else none
set_option maxHeartbeats 4000000 in
set_option maxRecDepth 100000 in
theorem k_X3_passLetters_0 {p : Program} {l : Launch} {e : Env} {s : State} {m : MethodId} {args : Array Value} {below : List Frame} {meth : Method} {c : Code} {dd : cl_D} {b : Nat} (C : cl_C p l s m args meth c cX3_passLetters RX3 1 none dd b) : ∀ (k : Nat), ∀ (M : cl_M) (t0 : Nat) (M' : cl_M), f_X3_passLetters_0 k M t0 = some M' → ∀ (H : Heap) (locs : List Loc) (ls : Array Slot), cl_sh dd t0 = 3 → cl_H dd b M s H locs → lv_has ls 1 [(0, .ref (b + t0))] → W p l e { frames := 1, cells := 0, slots := 0, locals := 20 } s m args below meth c H locs 0 0 (cl_Zv below args s dd b M') (F0 m 0 ls []) := by
  have hx := C.1
  have hb := C.2.1
  have hlt := C.2.2.2.2.2.2.2.2.2.2
  have hRr := C.2.2.2.2.2.2.2.2.2.1
  intro k
  induction k with
  | zero =>
    intro M t0 M' hf H locs ls ht0 hw hl
    rw [f_X3_passLetters_0] at hf
    cases hf
  | succ k ih =>
    intro M t0 M' hf H locs ls ht0 hw hl
    rw [f_X3_passLetters_0] at hf
    refine lv_aload_n hx hb dX3_passLetters_0 rfl (lv_at hl 0 rfl) ?_
    refine fg_X3_45 C hw ht0 dX3_passLetters_1 ?_
    refine lv_aload_n hx hb dX3_passLetters_4 rfl (lv_at hl 0 rfl) ?_
    refine fg_X3_26 C hw ht0 dX3_passLetters_5 ?_
    refine lv_icmp_ge (tgt := 39) hx hb dX3_passLetters_8 (by decide) (fun c1 => ?_) (fun c1 => ?_)
    · have hf := cl_yes c1 hf
      obtain rfl := Option.some.inj hf
      exact cr_retv C hw dX3_passLetters_39
    · have hf := cl_no c1 hf
      refine lv_aload_n hx hb dX3_passLetters_11 rfl (lv_at hl 0 rfl) ?_
      refine fg_X3_9 C hw ht0 dX3_passLetters_12 ?_
      refine lv_aload_n hx hb dX3_passLetters_15 rfl (lv_at hl 0 rfl) ?_
      refine fg_X3_45 C hw ht0 dX3_passLetters_16 ?_
      obtain ⟨q2, hf⟩ := cl_grd hf
      refine cr_iald C hw (sh_3_0 ht0).1 (sh_3_0 ht0).2 q2 (k := (M t0 2).toNatClampNeg) rfl dX3_passLetters_19 ?_
      obtain ⟨v3, e4, hf⟩ := cl_bind_e hf
      refine cr_Si C hw (c_X3_isLetter hlt e4) cy_X3_isLetter st_X3_isLetter ml_X3_108 (As := [.int (M (t0 + 1) ((M t0 2).toNatClampNeg))]) rfl hl.1 rfl ⟨⟨Nat.le_of_ble_eq_true rfl, Nat.le_of_ble_eq_true rfl⟩, Nat.le_of_ble_eq_true rfl, Nat.le_of_ble_eq_true rfl, Nat.le_of_ble_eq_true rfl⟩ dX3_passLetters_20 (fun H locs hw => ?_)
      refine lv_if_eq (tgt := 39) hx hb dX3_passLetters_23 (by decide) (fun c5 => ?_) (fun c5 => ?_)
      · have hf := cl_yes c5 hf
        obtain rfl := Option.some.inj hf
        exact cr_retv C hw dX3_passLetters_39
      · have hf := cl_no c5 hf
        refine lv_aload_n hx hb dX3_passLetters_26 rfl (lv_at hl 0 rfl) ?_
        refine lv_dup hx hb dX3_passLetters_27 rfl ?_
        refine fg_X3_45 C hw ht0 dX3_passLetters_28 ?_
        refine lv_iconst (v := 1) hx hb dX3_passLetters_31 (by decide) ?_
        refine lv_iadd hx hb dX3_passLetters_32 ?_
        obtain ⟨M6, eM6, hf⟩ := cl_let_e hf
        refine fp_X3_45 C hw ht0 eM6 dX3_passLetters_33 (fun H locs hw => ?_)
        refine lv_goto (tgt := 0) hx hb dX3_passLetters_36 (by decide) ?_
        exact ih M6 t0 _ hf _ _ _ ht0 hw (lv_sub hl [0] rfl)
def f_X3_passLetters (M : cl_M) (t0 : Nat) : Option (cl_M) := f_X3_passLetters_0 cl_F M t0
set_option maxRecDepth 100000 in
theorem c_X3_passLetters {l : Launch} {dd : cl_D} {b : Nat} (hlt : l.stackTraces = false) {M : cl_M} {t0 : Nat}  {M' : cl_M} (ht0 : cl_sh dd t0 = 3) (h : f_X3_passLetters M t0 = some M') : cl_Mv l dd b yX3_passLetters cX3_passLetters 1 none 1 20 [.ref (b + t0)] M M' :=
  cl_of hlt (by decide) (Nat.le_of_ble_eq_true rfl) (fun p e s m below meth c ls C hw hl => k_X3_passLetters_0 C cl_F M t0 M' h _ _ _ ht0 hw (lv_sub hl [0] rfl))
theorem cy_X3_passLetters : cl_cy yX3_passLetters cX3_passLetters 1 none 0 := ⟨in_ClothesLine_TextReader, cd_X3_passLetters, by decide +kernel, by decide +kernel, by decide +kernel⟩
theorem vy_X3_passLetters : cl_vy yX3_passLetters := ⟨im_X3_passLetters, se_X3_passLetters⟩
def f_X3_isDigit_17 (M : cl_M) (z0 : Int32) : Option (Int32) := if cl_bz z0 = true then some z0 else none
set_option maxHeartbeats 4000000 in
set_option maxRecDepth 100000 in
theorem k_X3_isDigit_17 {p : Program} {l : Launch} {e : Env} {s : State} {m : MethodId} {args : Array Value} {below : List Frame} {meth : Method} {c : Code} {dd : cl_D} {b : Nat} (C : cl_C p l s m args meth c cX3_isDigit RX3 1 (some .boolean) dd b) : ∀ (M : cl_M) (z0 : Int32) (r : Int32), f_X3_isDigit_17 M z0 = some r → ∀ (H : Heap) (locs : List Loc) (ls : Array Slot), cl_H dd b M s H locs → lv_has ls 1 [] → W p l e { frames := 0, cells := 0, slots := 0, locals := 0 } s m args below meth c H locs 0 0 (cl_Zi below args s dd b r M) (F0 m 17 ls [.int z0]) := by
  have hx := C.1
  have hb := C.2.1
  have hlt := C.2.2.2.2.2.2.2.2.2.2
  have hRr := C.2.2.2.2.2.2.2.2.2.1
  intro M z0 r hf H locs ls hw hl
  unfold f_X3_isDigit_17 at hf
  obtain ⟨q2, hf⟩ := cl_grd hf
  obtain rfl := Option.some.inj hf
  exact cr_retz C hw q2 dX3_isDigit_17
def f_X3_isDigit (M : cl_M) (a0 : Int32) : Option (Int32) := if a0 < 48 then f_X3_isDigit_17 M 0 else if 57 < a0 then f_X3_isDigit_17 M 0 else f_X3_isDigit_17 M 1
set_option maxHeartbeats 4000000 in
set_option maxRecDepth 100000 in
theorem k_X3_isDigit {p : Program} {l : Launch} {e : Env} {s : State} {m : MethodId} {args : Array Value} {below : List Frame} {meth : Method} {c : Code} {dd : cl_D} {b : Nat} (C : cl_C p l s m args meth c cX3_isDigit RX3 1 (some .boolean) dd b) : ∀ (M : cl_M) (a0 : Int32) (r : Int32), f_X3_isDigit M a0 = some r → ∀ (H : Heap) (locs : List Loc) (ls : Array Slot), cl_H dd b M s H locs → lv_has ls 1 [(0, .int a0)] → W p l e { frames := 0, cells := 0, slots := 0, locals := 0 } s m args below meth c H locs 0 0 (cl_Zi below args s dd b r M) (F0 m 0 ls []) := by
  have hx := C.1
  have hb := C.2.1
  have hlt := C.2.2.2.2.2.2.2.2.2.2
  have hRr := C.2.2.2.2.2.2.2.2.2.1
  intro M a0 r hf H locs ls hw hl
  unfold f_X3_isDigit at hf
  refine lv_iload_n hx hb dX3_isDigit_0 rfl (lv_at hl 0 rfl) ?_
  refine lv_bipush (v := 48) hx hb dX3_isDigit_1 (by decide) ?_
  refine lv_icmp_lt (tgt := 16) hx hb dX3_isDigit_3 (by decide) (fun c1 => ?_) (fun c1 => ?_)
  · have hf := cl_yes c1 hf
    refine lv_iconst (v := 0) hx hb dX3_isDigit_16 (by decide) ?_
    exact k_X3_isDigit_17 C M 0 _ hf _ _ _ hw (lv_sub hl [] rfl)
  · have hf := cl_no c1 hf
    refine lv_iload_n hx hb dX3_isDigit_6 rfl (lv_at hl 0 rfl) ?_
    refine lv_bipush (v := 57) hx hb dX3_isDigit_7 (by decide) ?_
    refine lv_icmp_gt (tgt := 16) hx hb dX3_isDigit_9 (by decide) (fun c3 => ?_) (fun c3 => ?_)
    · have hf := cl_yes c3 hf
      refine lv_iconst (v := 0) hx hb dX3_isDigit_16 (by decide) ?_
      exact k_X3_isDigit_17 C M 0 _ hf _ _ _ hw (lv_sub hl [] rfl)
    · have hf := cl_no c3 hf
      refine lv_iconst (v := 1) hx hb dX3_isDigit_12 (by decide) ?_
      refine lv_goto (tgt := 17) hx hb dX3_isDigit_13 (by decide) ?_
      exact k_X3_isDigit_17 C M 1 _ hf _ _ _ hw (lv_sub hl [] rfl)
set_option maxRecDepth 100000 in
theorem c_X3_isDigit {l : Launch} {dd : cl_D} {b : Nat} (hlt : l.stackTraces = false) {M : cl_M} {a0 : Int32}  {r : Int32} (h : f_X3_isDigit M a0 = some r) : cl_Mi l dd b yX3_isDigit cX3_isDigit 1 (some .boolean) 0 0 [.int a0] M r M :=
  cl_of hlt (by decide) (Nat.le_of_ble_eq_true rfl) (fun p e s m below meth c ls C hw hl => k_X3_isDigit C M a0 r h _ _ _ hw (lv_sub hl [0] rfl))
theorem cy_X3_isDigit : cl_cy yX3_isDigit cX3_isDigit 1 (some .boolean) 1 := ⟨in_ClothesLine_TextReader, cd_X3_isDigit, by decide +kernel, by decide +kernel, by decide +kernel⟩
def f_X3_passDigits_5 : Nat → cl_M → Nat → Option (cl_M)
  | 0, _, _ => none
  | k + 1, M, t0 => if (M t0 1) ≤ (M t0 2) then some M else if cl_inb (M t0 2) 700 = true then (f_X3_isDigit M (M (t0 + 1) ((M t0 2).toNatClampNeg))).bind (fun v4 => if v4 = 0 then some M else if cl_inb (M t0 2) 700 = true then cl_let (cl_ms M t0 5 (if 100000 < (((M t0 5) * 10) + ((M (t0 + 1) ((M t0 2).toNatClampNeg)) - 48)) then 100000 else (((M t0 5) * 10) + ((M (t0 + 1) ((M t0 2).toNatClampNeg)) - 48)))) (fun M8 => cl_let (cl_ms M8 t0 2 ((M8 t0 2) + 1)) (fun M9 => f_X3_passDigits_5 k M9 t0)) else none) else none
set_option maxHeartbeats 4000000 in
set_option maxRecDepth 100000 in
theorem k_X3_passDigits_5 {p : Program} {l : Launch} {e : Env} {s : State} {m : MethodId} {args : Array Value} {below : List Frame} {meth : Method} {c : Code} {dd : cl_D} {b : Nat} (C : cl_C p l s m args meth c cX3_passDigits RX3 1 none dd b) : ∀ (k : Nat), ∀ (M : cl_M) (t0 : Nat) (M' : cl_M), f_X3_passDigits_5 k M t0 = some M' → ∀ (H : Heap) (locs : List Loc) (ls : Array Slot), cl_sh dd t0 = 3 → cl_H dd b M s H locs → lv_has ls 1 [(0, .ref (b + t0))] → W p l e { frames := 1, cells := 0, slots := 0, locals := 20 } s m args below meth c H locs 0 0 (cl_Zv below args s dd b M') (F0 m 5 ls []) := by
  have hx := C.1
  have hb := C.2.1
  have hlt := C.2.2.2.2.2.2.2.2.2.2
  have hRr := C.2.2.2.2.2.2.2.2.2.1
  intro k
  induction k with
  | zero =>
    intro M t0 M' hf H locs ls ht0 hw hl
    rw [f_X3_passDigits_5] at hf
    cases hf
  | succ k ih =>
    intro M t0 M' hf H locs ls ht0 hw hl
    rw [f_X3_passDigits_5] at hf
    refine lv_aload_n hx hb dX3_passDigits_5 rfl (lv_at hl 0 rfl) ?_
    refine fg_X3_45 C hw ht0 dX3_passDigits_6 ?_
    refine lv_aload_n hx hb dX3_passDigits_9 rfl (lv_at hl 0 rfl) ?_
    refine fg_X3_26 C hw ht0 dX3_passDigits_10 ?_
    refine lv_icmp_ge (tgt := 73) hx hb dX3_passDigits_13 (by decide) (fun c2 => ?_) (fun c2 => ?_)
    · have hf := cl_yes c2 hf
      obtain rfl := Option.some.inj hf
      exact cr_retv C hw dX3_passDigits_73
    · have hf := cl_no c2 hf
      refine lv_aload_n hx hb dX3_passDigits_16 rfl (lv_at hl 0 rfl) ?_
      refine fg_X3_9 C hw ht0 dX3_passDigits_17 ?_
      refine lv_aload_n hx hb dX3_passDigits_20 rfl (lv_at hl 0 rfl) ?_
      refine fg_X3_45 C hw ht0 dX3_passDigits_21 ?_
      obtain ⟨q3, hf⟩ := cl_grd hf
      refine cr_iald C hw (sh_3_0 ht0).1 (sh_3_0 ht0).2 q3 (k := (M t0 2).toNatClampNeg) rfl dX3_passDigits_24 ?_
      obtain ⟨v4, e5, hf⟩ := cl_bind_e hf
      refine cr_Si C hw (c_X3_isDigit hlt e5) cy_X3_isDigit st_X3_isDigit ml_X3_114 (As := [.int (M (t0 + 1) ((M t0 2).toNatClampNeg))]) rfl hl.1 rfl ⟨⟨Nat.le_of_ble_eq_true rfl, Nat.le_of_ble_eq_true rfl⟩, Nat.le_of_ble_eq_true rfl, Nat.le_of_ble_eq_true rfl, Nat.le_of_ble_eq_true rfl⟩ dX3_passDigits_25 (fun H locs hw => ?_)
      refine lv_if_eq (tgt := 73) hx hb dX3_passDigits_28 (by decide) (fun c6 => ?_) (fun c6 => ?_)
      · have hf := cl_yes c6 hf
        obtain rfl := Option.some.inj hf
        exact cr_retv C hw dX3_passDigits_73
      · have hf := cl_no c6 hf
        refine lv_aload_n hx hb dX3_passDigits_31 rfl (lv_at hl 0 rfl) ?_
        refine lv_aload_n hx hb dX3_passDigits_32 rfl (lv_at hl 0 rfl) ?_
        refine fg_X3_120 C hw ht0 dX3_passDigits_33 ?_
        refine lv_bipush (v := 10) hx hb dX3_passDigits_36 (by decide) ?_
        refine lv_imul hx hb dX3_passDigits_38 ?_
        refine lv_aload_n hx hb dX3_passDigits_39 rfl (lv_at hl 0 rfl) ?_
        refine fg_X3_9 C hw ht0 dX3_passDigits_40 ?_
        refine lv_aload_n hx hb dX3_passDigits_43 rfl (lv_at hl 0 rfl) ?_
        refine fg_X3_45 C hw ht0 dX3_passDigits_44 ?_
        obtain ⟨q7, hf⟩ := cl_grd hf
        refine cr_iald C hw (sh_3_0 ht0).1 (sh_3_0 ht0).2 q7 (k := (M t0 2).toNatClampNeg) rfl dX3_passDigits_47 ?_
        refine lv_bipush (v := 48) hx hb dX3_passDigits_48 (by decide) ?_
        refine lv_isub hx hb dX3_passDigits_50 ?_
        refine lv_iadd hx hb dX3_passDigits_51 ?_
        refine lv_ldc (v := 100000) hx hb C.2.2.2.1 (C.2.2.2.2.1 _ kl_X3_123) dX3_passDigits_52 ?_
        refine cr_min C ml_X3_124 st_math_min in_math cd_math_min hl.1 ⟨Nat.le_of_ble_eq_true rfl, Nat.le_of_ble_eq_true rfl, Nat.le_of_ble_eq_true rfl, Nat.le_of_ble_eq_true rfl⟩ dX3_passDigits_54 ?_
        obtain ⟨M8, eM8, hf⟩ := cl_let_e hf
        refine fp_X3_120 C hw ht0 eM8 dX3_passDigits_57 (fun H locs hw => ?_)
        refine lv_aload_n hx hb dX3_passDigits_60 rfl (lv_at hl 0 rfl) ?_
        refine lv_dup hx hb dX3_passDigits_61 rfl ?_
        refine fg_X3_45 C hw ht0 dX3_passDigits_62 ?_
        refine lv_iconst (v := 1) hx hb dX3_passDigits_65 (by decide) ?_
        refine lv_iadd hx hb dX3_passDigits_66 ?_
        obtain ⟨M9, eM9, hf⟩ := cl_let_e hf
        refine fp_X3_45 C hw ht0 eM9 dX3_passDigits_67 (fun H locs hw => ?_)
        refine lv_goto (tgt := 5) hx hb dX3_passDigits_70 (by decide) ?_
        exact ih M9 t0 _ hf _ _ _ ht0 hw (lv_sub hl [0] rfl)
def f_X3_passDigits (M : cl_M) (t0 : Nat) : Option (cl_M) := cl_let (cl_ms M t0 5 0) (fun M1 => f_X3_passDigits_5 cl_F M1 t0)
set_option maxHeartbeats 4000000 in
set_option maxRecDepth 100000 in
theorem k_X3_passDigits {p : Program} {l : Launch} {e : Env} {s : State} {m : MethodId} {args : Array Value} {below : List Frame} {meth : Method} {c : Code} {dd : cl_D} {b : Nat} (C : cl_C p l s m args meth c cX3_passDigits RX3 1 none dd b) : ∀ (M : cl_M) (t0 : Nat) (M' : cl_M), f_X3_passDigits M t0 = some M' → ∀ (H : Heap) (locs : List Loc) (ls : Array Slot), cl_sh dd t0 = 3 → cl_H dd b M s H locs → lv_has ls 1 [(0, .ref (b + t0))] → W p l e { frames := 1, cells := 0, slots := 0, locals := 20 } s m args below meth c H locs 0 0 (cl_Zv below args s dd b M') (F0 m 0 ls []) := by
  have hx := C.1
  have hb := C.2.1
  have hlt := C.2.2.2.2.2.2.2.2.2.2
  have hRr := C.2.2.2.2.2.2.2.2.2.1
  intro M t0 M' hf H locs ls ht0 hw hl
  unfold f_X3_passDigits at hf
  refine lv_aload_n hx hb dX3_passDigits_0 rfl (lv_at hl 0 rfl) ?_
  refine lv_iconst (v := 0) hx hb dX3_passDigits_1 (by decide) ?_
  obtain ⟨M1, eM1, hf⟩ := cl_let_e hf
  refine fp_X3_120 C hw ht0 eM1 dX3_passDigits_2 (fun H locs hw => ?_)
  exact k_X3_passDigits_5 C cl_F M1 t0 _ hf _ _ _ ht0 hw (lv_sub hl [0] rfl)
set_option maxRecDepth 100000 in
theorem c_X3_passDigits {l : Launch} {dd : cl_D} {b : Nat} (hlt : l.stackTraces = false) {M : cl_M} {t0 : Nat}  {M' : cl_M} (ht0 : cl_sh dd t0 = 3) (h : f_X3_passDigits M t0 = some M') : cl_Mv l dd b yX3_passDigits cX3_passDigits 1 none 1 20 [.ref (b + t0)] M M' :=
  cl_of hlt (by decide) (Nat.le_of_ble_eq_true rfl) (fun p e s m below meth c ls C hw hl => k_X3_passDigits C M t0 M' h _ _ _ ht0 hw (lv_sub hl [0] rfl))
theorem cy_X3_passDigits : cl_cy yX3_passDigits cX3_passDigits 1 none 0 := ⟨in_ClothesLine_TextReader, cd_X3_passDigits, by decide +kernel, by decide +kernel, by decide +kernel⟩
theorem vy_X3_passDigits : cl_vy yX3_passDigits := ⟨im_X3_passDigits, se_X3_passDigits⟩
def f_X3_advance_153 (M : cl_M) (t0 : Nat) (z0 : Int32) (w1 : Nat) : Option (cl_M) := cl_let (cl_ms M w1 3 z0) (fun M14 => cl_let (cl_ms M14 t0 2 ((M14 t0 2) + 1)) (fun M15 => some M15))
set_option maxHeartbeats 4000000 in
set_option maxRecDepth 100000 in
theorem k_X3_advance_153 {p : Program} {l : Launch} {e : Env} {s : State} {m : MethodId} {args : Array Value} {below : List Frame} {meth : Method} {c : Code} {dd : cl_D} {b : Nat} (C : cl_C p l s m args meth c cX3_advance RX3 1 none dd b) : ∀ (M : cl_M) (t0 : Nat) (z0 : Int32) (w1 : Nat) (M' : cl_M), f_X3_advance_153 M t0 z0 w1 = some M' → ∀ (H : Heap) (locs : List Loc) (ls : Array Slot), cl_sh dd t0 = 3 → cl_sh dd w1 = 3 → cl_H dd b M s H locs → lv_has ls 1 [(0, .ref (b + t0))] → W p l e { frames := 2, cells := 0, slots := 0, locals := 40 } s m args below meth c H locs 0 0 (cl_Zv below args s dd b M') (F0 m 153 ls [.int z0, .ref (b + w1)]) := by
  have hx := C.1
  have hb := C.2.1
  have hlt := C.2.2.2.2.2.2.2.2.2.2
  have hRr := C.2.2.2.2.2.2.2.2.2.1
  intro M t0 z0 w1 M' hf H locs ls ht0 hw1 hw hl
  unfold f_X3_advance_153 at hf
  obtain ⟨M14, eM14, hf⟩ := cl_let_e hf
  refine fp_X3_87 C hw hw1 eM14 dX3_advance_153 (fun H locs hw => ?_)
  refine lv_aload_n hx hb dX3_advance_156 rfl (lv_at hl 0 rfl) ?_
  refine lv_dup hx hb dX3_advance_157 rfl ?_
  refine fg_X3_45 C hw ht0 dX3_advance_158 ?_
  refine lv_iconst (v := 1) hx hb dX3_advance_161 (by decide) ?_
  refine lv_iadd hx hb dX3_advance_162 ?_
  obtain ⟨M15, eM15, hf⟩ := cl_let_e hf
  refine fp_X3_45 C hw ht0 eM15 dX3_advance_163 (fun H locs hw => ?_)
  obtain rfl := Option.some.inj hf
  exact cr_retv C hw dX3_advance_166
def f_X3_advance_52 (M : cl_M) (t0 : Nat) : Option (cl_M) := cl_let (cl_ms M t0 4 (M t0 2)) (fun M2 => if (M2 t0 2) < (M2 t0 1) then if cl_inb (M2 t0 2) 700 = true then (f_X3_isLetter M2 (M2 (t0 + 1) ((M2 t0 2).toNatClampNeg))).bind (fun v5 => if v5 = 0 then if cl_inb (M2 t0 2) 700 = true then (f_X3_isDigit M2 (M2 (t0 + 1) ((M2 t0 2).toNatClampNeg))).bind (fun v9 => if v9 = 0 then if cl_inb (M2 t0 2) 700 = true then if (M2 (t0 + 1) ((M2 t0 2).toNatClampNeg)) = 59 then f_X3_advance_153 M2 t0 3 t0 else f_X3_advance_153 M2 t0 4 t0 else none else cl_let (cl_ms M2 t0 3 2) (fun M16 => (f_X3_passDigits M16 t0).bind (fun M17 => some M17))) else none else cl_let (cl_ms M2 t0 3 1) (fun M19 => (f_X3_passLetters M19 t0).bind (fun M20 => some M20))) else none else cl_let (cl_ms M2 t0 3 0) (fun M22 => some M22))
set_option maxHeartbeats 4000000 in
set_option maxRecDepth 100000 in
theorem k_X3_advance_52 {p : Program} {l : Launch} {e : Env} {s : State} {m : MethodId} {args : Array Value} {below : List Frame} {meth : Method} {c : Code} {dd : cl_D} {b : Nat} (C : cl_C p l s m args meth c cX3_advance RX3 1 none dd b) : ∀ (M : cl_M) (t0 : Nat) (M' : cl_M), f_X3_advance_52 M t0 = some M' → ∀ (H : Heap) (locs : List Loc) (ls : Array Slot), cl_sh dd t0 = 3 → cl_H dd b M s H locs → lv_has ls 1 [(0, .ref (b + t0))] → W p l e { frames := 2, cells := 0, slots := 0, locals := 40 } s m args below meth c H locs 0 0 (cl_Zv below args s dd b M') (F0 m 52 ls []) := by
  have hx := C.1
  have hb := C.2.1
  have hlt := C.2.2.2.2.2.2.2.2.2.2
  have hRr := C.2.2.2.2.2.2.2.2.2.1
  intro M t0 M' hf H locs ls ht0 hw hl
  unfold f_X3_advance_52 at hf
  refine lv_aload_n hx hb dX3_advance_52 rfl (lv_at hl 0 rfl) ?_
  refine lv_aload_n hx hb dX3_advance_53 rfl (lv_at hl 0 rfl) ?_
  refine fg_X3_45 C hw ht0 dX3_advance_54 ?_
  obtain ⟨M2, eM2, hf⟩ := cl_let_e hf
  refine fp_X3_105 C hw ht0 eM2 dX3_advance_57 (fun H locs hw => ?_)
  refine lv_aload_n hx hb dX3_advance_60 rfl (lv_at hl 0 rfl) ?_
  refine fg_X3_45 C hw ht0 dX3_advance_61 ?_
  refine lv_aload_n hx hb dX3_advance_64 rfl (lv_at hl 0 rfl) ?_
  refine fg_X3_26 C hw ht0 dX3_advance_65 ?_
  refine lv_icmp_lt (tgt := 79) hx hb dX3_advance_68 (by decide) (fun c3 => ?_) (fun c3 => ?_)
  · have hf := cl_yes c3 hf
    refine lv_aload_n hx hb dX3_advance_79 rfl (lv_at hl 0 rfl) ?_
    refine fg_X3_9 C hw ht0 dX3_advance_80 ?_
    refine lv_aload_n hx hb dX3_advance_83 rfl (lv_at hl 0 rfl) ?_
    refine fg_X3_45 C hw ht0 dX3_advance_84 ?_
    obtain ⟨q4, hf⟩ := cl_grd hf
    refine cr_iald C hw (sh_3_0 ht0).1 (sh_3_0 ht0).2 q4 (k := (M2 t0 2).toNatClampNeg) rfl dX3_advance_87 ?_
    obtain ⟨v5, e6, hf⟩ := cl_bind_e hf
    refine cr_Si C hw (c_X3_isLetter hlt e6) cy_X3_isLetter st_X3_isLetter ml_X3_108 (As := [.int (M2 (t0 + 1) ((M2 t0 2).toNatClampNeg))]) rfl hl.1 rfl ⟨⟨Nat.le_of_ble_eq_true rfl, Nat.le_of_ble_eq_true rfl⟩, Nat.le_of_ble_eq_true rfl, Nat.le_of_ble_eq_true rfl, Nat.le_of_ble_eq_true rfl⟩ dX3_advance_88 (fun H locs hw => ?_)
    refine lv_if_eq (tgt := 106) hx hb dX3_advance_91 (by decide) (fun c7 => ?_) (fun c7 => ?_)
    · have hf := cl_yes c7 hf
      refine lv_aload_n hx hb dX3_advance_106 rfl (lv_at hl 0 rfl) ?_
      refine fg_X3_9 C hw ht0 dX3_advance_107 ?_
      refine lv_aload_n hx hb dX3_advance_110 rfl (lv_at hl 0 rfl) ?_
      refine fg_X3_45 C hw ht0 dX3_advance_111 ?_
      obtain ⟨q8, hf⟩ := cl_grd hf
      refine cr_iald C hw (sh_3_0 ht0).1 (sh_3_0 ht0).2 q8 (k := (M2 t0 2).toNatClampNeg) rfl dX3_advance_114 ?_
      obtain ⟨v9, e10, hf⟩ := cl_bind_e hf
      refine cr_Si C hw (c_X3_isDigit hlt e10) cy_X3_isDigit st_X3_isDigit ml_X3_114 (As := [.int (M2 (t0 + 1) ((M2 t0 2).toNatClampNeg))]) rfl hl.1 rfl ⟨⟨Nat.le_of_ble_eq_true rfl, Nat.le_of_ble_eq_true rfl⟩, Nat.le_of_ble_eq_true rfl, Nat.le_of_ble_eq_true rfl, Nat.le_of_ble_eq_true rfl⟩ dX3_advance_115 (fun H locs hw => ?_)
      refine lv_if_eq (tgt := 133) hx hb dX3_advance_118 (by decide) (fun c11 => ?_) (fun c11 => ?_)
      · have hf := cl_yes c11 hf
        refine lv_aload_n hx hb dX3_advance_133 rfl (lv_at hl 0 rfl) ?_
        refine lv_aload_n hx hb dX3_advance_134 rfl (lv_at hl 0 rfl) ?_
        refine fg_X3_9 C hw ht0 dX3_advance_135 ?_
        refine lv_aload_n hx hb dX3_advance_138 rfl (lv_at hl 0 rfl) ?_
        refine fg_X3_45 C hw ht0 dX3_advance_139 ?_
        obtain ⟨q12, hf⟩ := cl_grd hf
        refine cr_iald C hw (sh_3_0 ht0).1 (sh_3_0 ht0).2 q12 (k := (M2 t0 2).toNatClampNeg) rfl dX3_advance_142 ?_
        refine lv_bipush (v := 59) hx hb dX3_advance_143 (by decide) ?_
        refine lv_icmp_ne (tgt := 152) hx hb dX3_advance_145 (by decide) (fun c13 => ?_) (fun c13 => ?_)
        · have hf := cl_no c13 hf
          refine lv_iconst (v := 4) hx hb dX3_advance_152 (by decide) ?_
          exact k_X3_advance_153 C M2 t0 4 t0 _ hf _ _ _ ht0 ht0 hw (lv_sub hl [0] rfl)
        · have hf := cl_yes c13 hf
          refine lv_iconst (v := 3) hx hb dX3_advance_148 (by decide) ?_
          refine lv_goto (tgt := 153) hx hb dX3_advance_149 (by decide) ?_
          exact k_X3_advance_153 C M2 t0 3 t0 _ hf _ _ _ ht0 ht0 hw (lv_sub hl [0] rfl)
      · have hf := cl_no c11 hf
        refine lv_aload_n hx hb dX3_advance_121 rfl (lv_at hl 0 rfl) ?_
        refine lv_iconst (v := 2) hx hb dX3_advance_122 (by decide) ?_
        obtain ⟨M16, eM16, hf⟩ := cl_let_e hf
        refine fp_X3_87 C hw ht0 eM16 dX3_advance_123 (fun H locs hw => ?_)
        refine lv_aload_n hx hb dX3_advance_126 rfl (lv_at hl 0 rfl) ?_
        obtain ⟨M17, e18, hf⟩ := cl_bind_e hf
        refine cr_Vv C hw (c_X3_passDigits hlt ht0 e18) cy_X3_passDigits vy_X3_passDigits ml_X3_117 (cl_lt ht0 (by decide)) (cl_e3 ht0) rfl rfl (As := []) rfl hl.1 rfl ⟨⟨Nat.le_of_ble_eq_true rfl, Nat.le_of_ble_eq_true rfl⟩, Nat.le_of_ble_eq_true rfl, Nat.le_of_ble_eq_true rfl, Nat.le_of_ble_eq_true rfl⟩ dX3_advance_127 (fun H locs hw => ?_)
        refine lv_goto (tgt := 166) hx hb dX3_advance_130 (by decide) ?_
        obtain rfl := Option.some.inj hf
        exact cr_retv C hw dX3_advance_166
    · have hf := cl_no c7 hf
      refine lv_aload_n hx hb dX3_advance_94 rfl (lv_at hl 0 rfl) ?_
      refine lv_iconst (v := 1) hx hb dX3_advance_95 (by decide) ?_
      obtain ⟨M19, eM19, hf⟩ := cl_let_e hf
      refine fp_X3_87 C hw ht0 eM19 dX3_advance_96 (fun H locs hw => ?_)
      refine lv_aload_n hx hb dX3_advance_99 rfl (lv_at hl 0 rfl) ?_
      obtain ⟨M20, e21, hf⟩ := cl_bind_e hf
      refine cr_Vv C hw (c_X3_passLetters hlt ht0 e21) cy_X3_passLetters vy_X3_passLetters ml_X3_111 (cl_lt ht0 (by decide)) (cl_e3 ht0) rfl rfl (As := []) rfl hl.1 rfl ⟨⟨Nat.le_of_ble_eq_true rfl, Nat.le_of_ble_eq_true rfl⟩, Nat.le_of_ble_eq_true rfl, Nat.le_of_ble_eq_true rfl, Nat.le_of_ble_eq_true rfl⟩ dX3_advance_100 (fun H locs hw => ?_)
      refine lv_goto (tgt := 166) hx hb dX3_advance_103 (by decide) ?_
      obtain rfl := Option.some.inj hf
      exact cr_retv C hw dX3_advance_166
  · have hf := cl_no c3 hf
    refine lv_aload_n hx hb dX3_advance_71 rfl (lv_at hl 0 rfl) ?_
    refine lv_iconst (v := 0) hx hb dX3_advance_72 (by decide) ?_
    obtain ⟨M22, eM22, hf⟩ := cl_let_e hf
    refine fp_X3_87 C hw ht0 eM22 dX3_advance_73 (fun H locs hw => ?_)
    refine lv_goto (tgt := 166) hx hb dX3_advance_76 (by decide) ?_
    obtain rfl := Option.some.inj hf
    exact cr_retv C hw dX3_advance_166
def f_X3_advance_39 (r0 : cl_M → Nat → Option (cl_M)) (M : cl_M) (t0 : Nat) : Option (cl_M) := cl_let (cl_ms M t0 2 ((M t0 2) + 1)) (fun M25 => r0 M25 t0)
set_option maxHeartbeats 4000000 in
set_option maxRecDepth 100000 in
theorem k_X3_advance_39 {p : Program} {l : Launch} {e : Env} {s : State} {m : MethodId} {args : Array Value} {below : List Frame} {meth : Method} {c : Code} {dd : cl_D} {b : Nat} (C : cl_C p l s m args meth c cX3_advance RX3 1 none dd b) {r0 : cl_M → Nat → Option (cl_M)} (hr0 : ∀ (M : cl_M) (t0 : Nat) (M' : cl_M), r0 M t0 = some M' → ∀ (H : Heap) (locs : List Loc) (ls : Array Slot), cl_sh dd t0 = 3 → cl_H dd b M s H locs → lv_has ls 1 [(0, .ref (b + t0))] → W p l e { frames := 2, cells := 0, slots := 0, locals := 40 } s m args below meth c H locs 0 0 (cl_Zv below args s dd b M') (F0 m 0 ls [])) : ∀ (M : cl_M) (t0 : Nat) (M' : cl_M), f_X3_advance_39 r0 M t0 = some M' → ∀ (H : Heap) (locs : List Loc) (ls : Array Slot), cl_sh dd t0 = 3 → cl_H dd b M s H locs → lv_has ls 1 [(0, .ref (b + t0))] → W p l e { frames := 2, cells := 0, slots := 0, locals := 40 } s m args below meth c H locs 0 0 (cl_Zv below args s dd b M') (F0 m 39 ls []) := by
  have hx := C.1
  have hb := C.2.1
  have hlt := C.2.2.2.2.2.2.2.2.2.2
  have hRr := C.2.2.2.2.2.2.2.2.2.1
  intro M t0 M' hf H locs ls ht0 hw hl
  unfold f_X3_advance_39 at hf
  refine lv_aload_n hx hb dX3_advance_39 rfl (lv_at hl 0 rfl) ?_
  refine lv_dup hx hb dX3_advance_40 rfl ?_
  refine fg_X3_45 C hw ht0 dX3_advance_41 ?_
  refine lv_iconst (v := 1) hx hb dX3_advance_44 (by decide) ?_
  refine lv_iadd hx hb dX3_advance_45 ?_
  obtain ⟨M25, eM25, hf⟩ := cl_let_e hf
  refine fp_X3_45 C hw ht0 eM25 dX3_advance_46 (fun H locs hw => ?_)
  refine lv_goto (tgt := 0) hx hb dX3_advance_49 (by decide) ?_
  exact hr0 M25 t0 _ hf _ _ _ ht0 hw (lv_sub hl [0] rfl)
def f_X3_advance_0 : Nat → cl_M → Nat → Option (cl_M)
  | 0, _, _ => none
  | k + 1, M, t0 => if (M t0 1) ≤ (M t0 2) then f_X3_advance_52 M t0 else if cl_inb (M t0 2) 700 = true then if (M (t0 + 1) ((M t0 2).toNatClampNeg)) = 32 then f_X3_advance_39 (f_X3_advance_0 k) M t0 else if cl_inb (M t0 2) 700 = true then if (M (t0 + 1) ((M t0 2).toNatClampNeg)) = 10 then f_X3_advance_39 (f_X3_advance_0 k) M t0 else f_X3_advance_52 M t0 else none else none
set_option maxHeartbeats 4000000 in
set_option maxRecDepth 100000 in
theorem k_X3_advance_0 {p : Program} {l : Launch} {e : Env} {s : State} {m : MethodId} {args : Array Value} {below : List Frame} {meth : Method} {c : Code} {dd : cl_D} {b : Nat} (C : cl_C p l s m args meth c cX3_advance RX3 1 none dd b) : ∀ (k : Nat), ∀ (M : cl_M) (t0 : Nat) (M' : cl_M), f_X3_advance_0 k M t0 = some M' → ∀ (H : Heap) (locs : List Loc) (ls : Array Slot), cl_sh dd t0 = 3 → cl_H dd b M s H locs → lv_has ls 1 [(0, .ref (b + t0))] → W p l e { frames := 2, cells := 0, slots := 0, locals := 40 } s m args below meth c H locs 0 0 (cl_Zv below args s dd b M') (F0 m 0 ls []) := by
  have hx := C.1
  have hb := C.2.1
  have hlt := C.2.2.2.2.2.2.2.2.2.2
  have hRr := C.2.2.2.2.2.2.2.2.2.1
  intro k
  induction k with
  | zero =>
    intro M t0 M' hf H locs ls ht0 hw hl
    rw [f_X3_advance_0] at hf
    cases hf
  | succ k ih =>
    intro M t0 M' hf H locs ls ht0 hw hl
    rw [f_X3_advance_0] at hf
    refine lv_aload_n hx hb dX3_advance_0 rfl (lv_at hl 0 rfl) ?_
    refine fg_X3_45 C hw ht0 dX3_advance_1 ?_
    refine lv_aload_n hx hb dX3_advance_4 rfl (lv_at hl 0 rfl) ?_
    refine fg_X3_26 C hw ht0 dX3_advance_5 ?_
    refine lv_icmp_ge (tgt := 52) hx hb dX3_advance_8 (by decide) (fun c1 => ?_) (fun c1 => ?_)
    · have hf := cl_yes c1 hf
      exact k_X3_advance_52 C M t0 _ hf _ _ _ ht0 hw (lv_sub hl [0] rfl)
    · have hf := cl_no c1 hf
      refine lv_aload_n hx hb dX3_advance_11 rfl (lv_at hl 0 rfl) ?_
      refine fg_X3_9 C hw ht0 dX3_advance_12 ?_
      refine lv_aload_n hx hb dX3_advance_15 rfl (lv_at hl 0 rfl) ?_
      refine fg_X3_45 C hw ht0 dX3_advance_16 ?_
      obtain ⟨q23, hf⟩ := cl_grd hf
      refine cr_iald C hw (sh_3_0 ht0).1 (sh_3_0 ht0).2 q23 (k := (M t0 2).toNatClampNeg) rfl dX3_advance_19 ?_
      refine lv_bipush (v := 32) hx hb dX3_advance_20 (by decide) ?_
      refine lv_icmp_eq (tgt := 39) hx hb dX3_advance_22 (by decide) (fun c24 => ?_) (fun c24 => ?_)
      · have hf := cl_yes c24 hf
        exact k_X3_advance_39 C ih M t0 _ hf _ _ _ ht0 hw (lv_sub hl [0] rfl)
      · have hf := cl_no c24 hf
        refine lv_aload_n hx hb dX3_advance_25 rfl (lv_at hl 0 rfl) ?_
        refine fg_X3_9 C hw ht0 dX3_advance_26 ?_
        refine lv_aload_n hx hb dX3_advance_29 rfl (lv_at hl 0 rfl) ?_
        refine fg_X3_45 C hw ht0 dX3_advance_30 ?_
        obtain ⟨q26, hf⟩ := cl_grd hf
        refine cr_iald C hw (sh_3_0 ht0).1 (sh_3_0 ht0).2 q26 (k := (M t0 2).toNatClampNeg) rfl dX3_advance_33 ?_
        refine lv_bipush (v := 10) hx hb dX3_advance_34 (by decide) ?_
        refine lv_icmp_ne (tgt := 52) hx hb dX3_advance_36 (by decide) (fun c27 => ?_) (fun c27 => ?_)
        · have hf := cl_no c27 hf
          exact k_X3_advance_52 C M t0 _ hf _ _ _ ht0 hw (lv_sub hl [0] rfl)
        · have hf := cl_yes c27 hf
          exact k_X3_advance_39 C ih M t0 _ hf _ _ _ ht0 hw (lv_sub hl [0] rfl)
def f_X3_advance (M : cl_M) (t0 : Nat) : Option (cl_M) := f_X3_advance_0 cl_F M t0
set_option maxRecDepth 100000 in
theorem c_X3_advance {l : Launch} {dd : cl_D} {b : Nat} (hlt : l.stackTraces = false) {M : cl_M} {t0 : Nat}  {M' : cl_M} (ht0 : cl_sh dd t0 = 3) (h : f_X3_advance M t0 = some M') : cl_Mv l dd b yX3_advance cX3_advance 1 none 2 40 [.ref (b + t0)] M M' :=
  cl_of hlt (by decide) (Nat.le_of_ble_eq_true rfl) (fun p e s m below meth c ls C hw hl => k_X3_advance_0 C cl_F M t0 M' h _ _ _ ht0 hw (lv_sub hl [0] rfl))
theorem cy_X3_advance : cl_cy yX3_advance cX3_advance 1 none 0 := ⟨in_ClothesLine_TextReader, cd_X3_advance, by decide +kernel, by decide +kernel, by decide +kernel⟩
theorem vy_X3_advance : cl_vy yX3_advance := ⟨im_X3_advance, se_X3_advance⟩
def f_X3_tokenIs_28 : Nat → cl_M → Nat → Nat → Int32 → Option (Int32)
  | 0, _, _, _, _ => none
  | k + 1, M, t0, i1, a2 => if (nI (cl_sl i1)) ≤ a2 then some 1 else if cl_inb ((M t0 4) + a2) 700 = true then if cl_inb a2 (cl_sl i1) = true then if (M (t0 + 1) (((M t0 4) + a2).toNatClampNeg)) = (cl_ch i1 (a2).toNatClampNeg) then cl_let (a2 + 1) (fun v7 => f_X3_tokenIs_28 k M t0 i1 v7) else some 0 else none else none
set_option maxHeartbeats 4000000 in
set_option maxRecDepth 100000 in
theorem k_X3_tokenIs_28 {p : Program} {l : Launch} {e : Env} {s : State} {m : MethodId} {args : Array Value} {below : List Frame} {meth : Method} {c : Code} {dd : cl_D} {b : Nat} (C : cl_C p l s m args meth c cX3_tokenIs RX3 3 (some .boolean) dd b) : ∀ (k : Nat), ∀ (M : cl_M) (t0 : Nat) (i1 : Nat) (a2 : Int32) (r : Int32), f_X3_tokenIs_28 k M t0 i1 a2 = some r → ∀ (H : Heap) (locs : List Loc) (ls : Array Slot), cl_sh dd t0 = 3 → i1 < 29 → cl_H dd b M s H locs → lv_has ls 3 [(0, .ref (b + t0)), (1, .ref (dd.2.2.1 i1)), (2, .int a2)] → W p l e { frames := 4, cells := 0, slots := 0, locals := 85 } s m args below meth c H locs 0 0 (cl_Zi below args s dd b r M) (F0 m 28 ls []) := by
  have hx := C.1
  have hb := C.2.1
  have hlt := C.2.2.2.2.2.2.2.2.2.2
  have hRr := C.2.2.2.2.2.2.2.2.2.1
  intro k
  induction k with
  | zero =>
    intro M t0 i1 a2 r hf H locs ls ht0 hi1 hw hl
    rw [f_X3_tokenIs_28] at hf
    cases hf
  | succ k ih =>
    intro M t0 i1 a2 r hf H locs ls ht0 hi1 hw hl
    rw [f_X3_tokenIs_28] at hf
    refine lv_iload_n hx hb dX3_tokenIs_28 rfl (lv_at hl 2 rfl) ?_
    refine lv_aload_n hx hb dX3_tokenIs_29 rfl (lv_at hl 1 rfl) ?_
    refine cr_slen C hw hi1 ml_X3_33 hl.1 rfl ⟨⟨Nat.le_of_ble_eq_true rfl, Nat.le_of_ble_eq_true rfl⟩, Nat.le_of_ble_eq_true rfl, Nat.le_of_ble_eq_true rfl, Nat.le_of_ble_eq_true rfl⟩ dX3_tokenIs_30 (fun H locs hw => ?_)
    refine lv_icmp_ge (tgt := 63) hx hb dX3_tokenIs_33 (by decide) (fun c3 => ?_) (fun c3 => ?_)
    · have hf := cl_yes c3 hf
      refine lv_iconst (v := 1) hx hb dX3_tokenIs_63 (by decide) ?_
      obtain rfl := Option.some.inj hf
      exact cr_retz C hw (by decide) dX3_tokenIs_64
    · have hf := cl_no c3 hf
      refine lv_aload_n hx hb dX3_tokenIs_36 rfl (lv_at hl 0 rfl) ?_
      refine fg_X3_9 C hw ht0 dX3_tokenIs_37 ?_
      refine lv_aload_n hx hb dX3_tokenIs_40 rfl (lv_at hl 0 rfl) ?_
      refine fg_X3_105 C hw ht0 dX3_tokenIs_41 ?_
      refine lv_iload_n hx hb dX3_tokenIs_44 rfl (lv_at hl 2 rfl) ?_
      refine lv_iadd hx hb dX3_tokenIs_45 ?_
      obtain ⟨q4, hf⟩ := cl_grd hf
      refine cr_iald C hw (sh_3_0 ht0).1 (sh_3_0 ht0).2 q4 (k := ((M t0 4) + a2).toNatClampNeg) rfl dX3_tokenIs_46 ?_
      refine lv_aload_n hx hb dX3_tokenIs_47 rfl (lv_at hl 1 rfl) ?_
      refine lv_iload_n hx hb dX3_tokenIs_48 rfl (lv_at hl 2 rfl) ?_
      obtain ⟨q5, hf⟩ := cl_grd hf
      refine cr_schar C hw hi1 q5 ml_X3_38 hl.1 rfl ⟨⟨Nat.le_of_ble_eq_true rfl, Nat.le_of_ble_eq_true rfl⟩, Nat.le_of_ble_eq_true rfl, Nat.le_of_ble_eq_true rfl, Nat.le_of_ble_eq_true rfl⟩ dX3_tokenIs_49 (fun H locs hw => ?_)
      refine lv_icmp_eq (tgt := 57) hx hb dX3_tokenIs_52 (by decide) (fun c6 => ?_) (fun c6 => ?_)
      · have hf := cl_yes c6 hf
        obtain ⟨v7, ev7, hf⟩ := cl_let_e hf
        refine lv_iinc (v := v7) (lv' := [(2, .int v7), (0, .ref (b + t0)), (1, .ref (dd.2.2.1 i1))]) hx hb dX3_tokenIs_57 hl (k := 2) rfl (by rw [ev7]; rfl) (by decide) rfl (fun ls hl => ?_)
        refine lv_goto (tgt := 28) hx hb dX3_tokenIs_60 (by decide) ?_
        exact ih M t0 i1 v7 _ hf _ _ _ ht0 hi1 hw (lv_sub hl [1, 2, 0] rfl)
      · have hf := cl_no c6 hf
        refine lv_iconst (v := 0) hx hb dX3_tokenIs_55 (by decide) ?_
        obtain rfl := Option.some.inj hf
        exact cr_retz C hw (by decide) dX3_tokenIs_56
def f_X3_tokenIs (M : cl_M) (t0 : Nat) (i1 : Nat) : Option (Int32) := if (M t0 3) = 1 then if ((M t0 2) - (M t0 4)) = (nI (cl_sl i1)) then f_X3_tokenIs_28 cl_F M t0 i1 0 else some 0 else some 0
set_option maxHeartbeats 4000000 in
set_option maxRecDepth 100000 in
theorem k_X3_tokenIs {p : Program} {l : Launch} {e : Env} {s : State} {m : MethodId} {args : Array Value} {below : List Frame} {meth : Method} {c : Code} {dd : cl_D} {b : Nat} (C : cl_C p l s m args meth c cX3_tokenIs RX3 3 (some .boolean) dd b) : ∀ (M : cl_M) (t0 : Nat) (i1 : Nat) (r : Int32), f_X3_tokenIs M t0 i1 = some r → ∀ (H : Heap) (locs : List Loc) (ls : Array Slot), cl_sh dd t0 = 3 → i1 < 29 → cl_H dd b M s H locs → lv_has ls 3 [(0, .ref (b + t0)), (1, .ref (dd.2.2.1 i1))] → W p l e { frames := 4, cells := 0, slots := 0, locals := 85 } s m args below meth c H locs 0 0 (cl_Zi below args s dd b r M) (F0 m 0 ls []) := by
  have hx := C.1
  have hb := C.2.1
  have hlt := C.2.2.2.2.2.2.2.2.2.2
  have hRr := C.2.2.2.2.2.2.2.2.2.1
  intro M t0 i1 r hf H locs ls ht0 hi1 hw hl
  unfold f_X3_tokenIs at hf
  refine lv_aload_n hx hb dX3_tokenIs_0 rfl (lv_at hl 0 rfl) ?_
  refine fg_X3_87 C hw ht0 dX3_tokenIs_1 ?_
  refine lv_iconst (v := 1) hx hb dX3_tokenIs_4 (by decide) ?_
  refine lv_icmp_ne (tgt := 24) hx hb dX3_tokenIs_5 (by decide) (fun c1 => ?_) (fun c1 => ?_)
  · have hf := cl_no c1 hf
    refine lv_iconst (v := 0) hx hb dX3_tokenIs_24 (by decide) ?_
    obtain rfl := Option.some.inj hf
    exact cr_retz C hw (by decide) dX3_tokenIs_25
  · have hf := cl_yes c1 hf
    refine lv_aload_n hx hb dX3_tokenIs_8 rfl (lv_at hl 0 rfl) ?_
    refine fg_X3_45 C hw ht0 dX3_tokenIs_9 ?_
    refine lv_aload_n hx hb dX3_tokenIs_12 rfl (lv_at hl 0 rfl) ?_
    refine fg_X3_105 C hw ht0 dX3_tokenIs_13 ?_
    refine lv_isub hx hb dX3_tokenIs_16 ?_
    refine lv_aload_n hx hb dX3_tokenIs_17 rfl (lv_at hl 1 rfl) ?_
    refine cr_slen C hw hi1 ml_X3_33 hl.1 rfl ⟨⟨Nat.le_of_ble_eq_true rfl, Nat.le_of_ble_eq_true rfl⟩, Nat.le_of_ble_eq_true rfl, Nat.le_of_ble_eq_true rfl, Nat.le_of_ble_eq_true rfl⟩ dX3_tokenIs_18 (fun H locs hw => ?_)
    refine lv_icmp_eq (tgt := 26) hx hb dX3_tokenIs_21 (by decide) (fun c2 => ?_) (fun c2 => ?_)
    · have hf := cl_yes c2 hf
      refine lv_iconst (v := 0) hx hb dX3_tokenIs_26 (by decide) ?_
      refine lv_istore_n (lv' := [(2, .int 0), (0, .ref (b + t0)), (1, .ref (dd.2.2.1 i1))]) hx hb dX3_tokenIs_27 rfl hl (by decide) rfl (fun ls hl => ?_)
      exact k_X3_tokenIs_28 C cl_F M t0 i1 0 _ hf _ _ _ ht0 hi1 hw (lv_sub hl [1, 2, 0] rfl)
    · have hf := cl_no c2 hf
      refine lv_iconst (v := 0) hx hb dX3_tokenIs_24 (by decide) ?_
      obtain rfl := Option.some.inj hf
      exact cr_retz C hw (by decide) dX3_tokenIs_25
set_option maxRecDepth 100000 in
theorem c_X3_tokenIs {l : Launch} {dd : cl_D} {b : Nat} (hlt : l.stackTraces = false) {M : cl_M} {t0 : Nat} {i1 : Nat}  {r : Int32} (ht0 : cl_sh dd t0 = 3) (hi1 : i1 < 29) (h : f_X3_tokenIs M t0 i1 = some r) : cl_Mi l dd b yX3_tokenIs cX3_tokenIs 3 (some .boolean) 4 85 [.ref (b + t0), .ref (dd.2.2.1 i1)] M r M :=
  cl_of hlt (by decide) (Nat.le_of_ble_eq_true rfl) (fun p e s m below meth c ls C hw hl => k_X3_tokenIs C M t0 i1 r h _ _ _ ht0 hi1 hw (lv_sub hl [0, 1] rfl))
theorem cy_X3_tokenIs : cl_cy yX3_tokenIs cX3_tokenIs 3 (some .boolean) 1 := ⟨in_ClothesLine_TextReader, cd_X3_tokenIs, by decide +kernel, by decide +kernel, by decide +kernel⟩
theorem vy_X3_tokenIs : cl_vy yX3_tokenIs := ⟨im_X3_tokenIs, se_X3_tokenIs⟩
def f_X3_fail (M : cl_M) (t0 : Nat) (a1 : Int32) : Option (Int32 × cl_M) := cl_let (cl_ms M t0 8 a1) (fun M1 => cl_let (cl_ms M1 t0 9 (M1 t0 4)) (fun M2 => some (0, M2)))
set_option maxHeartbeats 4000000 in
set_option maxRecDepth 100000 in
theorem k_X3_fail {p : Program} {l : Launch} {e : Env} {s : State} {m : MethodId} {args : Array Value} {below : List Frame} {meth : Method} {c : Code} {dd : cl_D} {b : Nat} (C : cl_C p l s m args meth c cX3_fail RX3 2 (some .boolean) dd b) : ∀ (M : cl_M) (t0 : Nat) (a1 : Int32) (r : Int32) (M' : cl_M), f_X3_fail M t0 a1 = some (r, M') → ∀ (H : Heap) (locs : List Loc) (ls : Array Slot), cl_sh dd t0 = 3 → cl_H dd b M s H locs → lv_has ls 2 [(0, .ref (b + t0)), (1, .int a1)] → W p l e { frames := 0, cells := 0, slots := 0, locals := 0 } s m args below meth c H locs 0 0 (cl_Zi below args s dd b r M') (F0 m 0 ls []) := by
  have hx := C.1
  have hb := C.2.1
  have hlt := C.2.2.2.2.2.2.2.2.2.2
  have hRr := C.2.2.2.2.2.2.2.2.2.1
  intro M t0 a1 r M' hf H locs ls ht0 hw hl
  unfold f_X3_fail at hf
  refine lv_aload_n hx hb dX3_fail_0 rfl (lv_at hl 0 rfl) ?_
  refine lv_iload_n hx hb dX3_fail_1 rfl (lv_at hl 1 rfl) ?_
  obtain ⟨M1, eM1, hf⟩ := cl_let_e hf
  refine fp_X3_48 C hw ht0 eM1 dX3_fail_2 (fun H locs hw => ?_)
  refine lv_aload_n hx hb dX3_fail_5 rfl (lv_at hl 0 rfl) ?_
  refine lv_aload_n hx hb dX3_fail_6 rfl (lv_at hl 0 rfl) ?_
  refine fg_X3_105 C hw ht0 dX3_fail_7 ?_
  obtain ⟨M2, eM2, hf⟩ := cl_let_e hf
  refine fp_X3_18 C hw ht0 eM2 dX3_fail_10 (fun H locs hw => ?_)
  refine lv_iconst (v := 0) hx hb dX3_fail_13 (by decide) ?_
  obtain ⟨rfl, rfl⟩ := cl_pair hf
  exact cr_retz C hw (by decide) dX3_fail_14
set_option maxRecDepth 100000 in
theorem c_X3_fail {l : Launch} {dd : cl_D} {b : Nat} (hlt : l.stackTraces = false) {M : cl_M} {t0 : Nat} {a1 : Int32}  {r : Int32} {M' : cl_M} (ht0 : cl_sh dd t0 = 3) (h : f_X3_fail M t0 a1 = some (r, M')) : cl_Mi l dd b yX3_fail cX3_fail 2 (some .boolean) 0 0 [.ref (b + t0), .int a1] M r M' :=
  cl_of hlt (by decide) (Nat.le_of_ble_eq_true rfl) (fun p e s m below meth c ls C hw hl => k_X3_fail C M t0 a1 r M' h _ _ _ ht0 hw (lv_sub hl [0, 1] rfl))
theorem cy_X3_fail : cl_cy yX3_fail cX3_fail 2 (some .boolean) 1 := ⟨in_ClothesLine_TextReader, cd_X3_fail, by decide +kernel, by decide +kernel, by decide +kernel⟩
theorem vy_X3_fail : cl_vy yX3_fail := ⟨im_X3_fail, se_X3_fail⟩
def f_X3_readWord_25 (M : cl_M) (z0 : Int32) : Option (Int32 × cl_M) := if cl_bz z0 = true then some (z0, M) else none
set_option maxHeartbeats 4000000 in
set_option maxRecDepth 100000 in
theorem k_X3_readWord_25 {p : Program} {l : Launch} {e : Env} {s : State} {m : MethodId} {args : Array Value} {below : List Frame} {meth : Method} {c : Code} {dd : cl_D} {b : Nat} (C : cl_C p l s m args meth c cX3_readWord RX3 2 (some .boolean) dd b) : ∀ (M : cl_M) (z0 : Int32) (r : Int32) (M' : cl_M), f_X3_readWord_25 M z0 = some (r, M') → ∀ (H : Heap) (locs : List Loc) (ls : Array Slot), cl_H dd b M s H locs → lv_has ls 2 [] → W p l e { frames := 5, cells := 0, slots := 0, locals := 107 } s m args below meth c H locs 0 0 (cl_Zi below args s dd b r M') (F0 m 25 ls [.int z0]) := by
  have hx := C.1
  have hb := C.2.1
  have hlt := C.2.2.2.2.2.2.2.2.2.2
  have hRr := C.2.2.2.2.2.2.2.2.2.1
  intro M z0 r M' hf H locs ls hw hl
  unfold f_X3_readWord_25 at hf
  obtain ⟨q6, hf⟩ := cl_grd hf
  obtain ⟨rfl, rfl⟩ := cl_pair hf
  exact cr_retz C hw q6 dX3_readWord_25
def f_X3_readWord_20 (M : cl_M) : Option (Int32 × cl_M) := f_X3_readWord_25 M 1
set_option maxHeartbeats 4000000 in
set_option maxRecDepth 100000 in
theorem k_X3_readWord_20 {p : Program} {l : Launch} {e : Env} {s : State} {m : MethodId} {args : Array Value} {below : List Frame} {meth : Method} {c : Code} {dd : cl_D} {b : Nat} (C : cl_C p l s m args meth c cX3_readWord RX3 2 (some .boolean) dd b) : ∀ (M : cl_M) (r : Int32) (M' : cl_M), f_X3_readWord_20 M = some (r, M') → ∀ (H : Heap) (locs : List Loc) (ls : Array Slot), cl_H dd b M s H locs → lv_has ls 2 [] → W p l e { frames := 5, cells := 0, slots := 0, locals := 107 } s m args below meth c H locs 0 0 (cl_Zi below args s dd b r M') (F0 m 20 ls []) := by
  have hx := C.1
  have hb := C.2.1
  have hlt := C.2.2.2.2.2.2.2.2.2.2
  have hRr := C.2.2.2.2.2.2.2.2.2.1
  intro M r M' hf H locs ls hw hl
  unfold f_X3_readWord_20 at hf
  refine lv_iconst (v := 1) hx hb dX3_readWord_20 (by decide) ?_
  refine lv_goto (tgt := 25) hx hb dX3_readWord_21 (by decide) ?_
  exact k_X3_readWord_25 C M 1 _ _ hf _ _ _ hw (lv_sub hl [] rfl)
def f_X3_readWord (M : cl_M) (t0 : Nat) (i1 : Nat) : Option (Int32 × cl_M) := (f_X3_advance M t0).bind (fun M1 => (f_X3_tokenIs M1 t0 i1).bind (fun v3 => if v3 = 0 then cl_b2 (f_X3_fail M1 t0 1) (fun v7 M8 => if v7 = 0 then f_X3_readWord_25 M8 0 else f_X3_readWord_20 M8) else f_X3_readWord_20 M1))
set_option maxHeartbeats 4000000 in
set_option maxRecDepth 100000 in
theorem k_X3_readWord {p : Program} {l : Launch} {e : Env} {s : State} {m : MethodId} {args : Array Value} {below : List Frame} {meth : Method} {c : Code} {dd : cl_D} {b : Nat} (C : cl_C p l s m args meth c cX3_readWord RX3 2 (some .boolean) dd b) : ∀ (M : cl_M) (t0 : Nat) (i1 : Nat) (r : Int32) (M' : cl_M), f_X3_readWord M t0 i1 = some (r, M') → ∀ (H : Heap) (locs : List Loc) (ls : Array Slot), cl_sh dd t0 = 3 → i1 < 29 → cl_H dd b M s H locs → lv_has ls 2 [(0, .ref (b + t0)), (1, .ref (dd.2.2.1 i1))] → W p l e { frames := 5, cells := 0, slots := 0, locals := 107 } s m args below meth c H locs 0 0 (cl_Zi below args s dd b r M') (F0 m 0 ls []) := by
  have hx := C.1
  have hb := C.2.1
  have hlt := C.2.2.2.2.2.2.2.2.2.2
  have hRr := C.2.2.2.2.2.2.2.2.2.1
  intro M t0 i1 r M' hf H locs ls ht0 hi1 hw hl
  unfold f_X3_readWord at hf
  refine lv_aload_n hx hb dX3_readWord_0 rfl (lv_at hl 0 rfl) ?_
  obtain ⟨M1, e2, hf⟩ := cl_bind_e hf
  refine cr_Vv C hw (c_X3_advance hlt ht0 e2) cy_X3_advance vy_X3_advance ml_X3_84 (cl_lt ht0 (by decide)) (cl_e3 ht0) rfl rfl (As := []) rfl hl.1 rfl ⟨⟨Nat.le_of_ble_eq_true rfl, Nat.le_of_ble_eq_true rfl⟩, Nat.le_of_ble_eq_true rfl, Nat.le_of_ble_eq_true rfl, Nat.le_of_ble_eq_true rfl⟩ dX3_readWord_1 (fun H locs hw => ?_)
  refine lv_aload_n hx hb dX3_readWord_4 rfl (lv_at hl 0 rfl) ?_
  refine lv_aload_n hx hb dX3_readWord_5 rfl (lv_at hl 1 rfl) ?_
  obtain ⟨v3, e4, hf⟩ := cl_bind_e hf
  refine cr_Vi C hw (c_X3_tokenIs hlt ht0 hi1 e4) cy_X3_tokenIs vy_X3_tokenIs ml_X3_130 (cl_lt ht0 (by decide)) (cl_e3 ht0) rfl rfl (As := [.ref (dd.2.2.1 i1)]) rfl hl.1 rfl ⟨⟨Nat.le_of_ble_eq_true rfl, Nat.le_of_ble_eq_true rfl⟩, Nat.le_of_ble_eq_true rfl, Nat.le_of_ble_eq_true rfl, Nat.le_of_ble_eq_true rfl⟩ dX3_readWord_6 (fun H locs hw => ?_)
  refine lv_if_ne (tgt := 20) hx hb dX3_readWord_9 (by decide) (fun c5 => ?_) (fun c5 => ?_)
  · have hf := cl_no c5 hf
    exact k_X3_readWord_20 C M1 _ _ hf _ _ _ hw (lv_sub hl [] rfl)
  · have hf := cl_yes c5 hf
    refine lv_aload_n hx hb dX3_readWord_12 rfl (lv_at hl 0 rfl) ?_
    refine lv_iconst (v := 1) hx hb dX3_readWord_13 (by decide) ?_
    obtain ⟨v7, M8, e9, hf⟩ := cl_b2_e hf
    refine cr_Vi C hw (c_X3_fail hlt ht0 e9) cy_X3_fail vy_X3_fail ml_X3_101 (cl_lt ht0 (by decide)) (cl_e3 ht0) rfl rfl (As := [.int 1]) rfl hl.1 rfl ⟨⟨Nat.le_of_ble_eq_true rfl, Nat.le_of_ble_eq_true rfl⟩, Nat.le_of_ble_eq_true rfl, Nat.le_of_ble_eq_true rfl, Nat.le_of_ble_eq_true rfl⟩ dX3_readWord_14 (fun H locs hw => ?_)
    refine lv_if_eq (tgt := 24) hx hb dX3_readWord_17 (by decide) (fun c10 => ?_) (fun c10 => ?_)
    · have hf := cl_yes c10 hf
      refine lv_iconst (v := 0) hx hb dX3_readWord_24 (by decide) ?_
      exact k_X3_readWord_25 C M8 0 _ _ hf _ _ _ hw (lv_sub hl [] rfl)
    · have hf := cl_no c10 hf
      exact k_X3_readWord_20 C M8 _ _ hf _ _ _ hw (lv_sub hl [] rfl)
set_option maxRecDepth 100000 in
theorem c_X3_readWord {l : Launch} {dd : cl_D} {b : Nat} (hlt : l.stackTraces = false) {M : cl_M} {t0 : Nat} {i1 : Nat}  {r : Int32} {M' : cl_M} (ht0 : cl_sh dd t0 = 3) (hi1 : i1 < 29) (h : f_X3_readWord M t0 i1 = some (r, M')) : cl_Mi l dd b yX3_readWord cX3_readWord 2 (some .boolean) 5 107 [.ref (b + t0), .ref (dd.2.2.1 i1)] M r M' :=
  cl_of hlt (by decide) (Nat.le_of_ble_eq_true rfl) (fun p e s m below meth c ls C hw hl => k_X3_readWord C M t0 i1 r M' h _ _ _ ht0 hi1 hw (lv_sub hl [0, 1] rfl))
theorem cy_X3_readWord : cl_cy yX3_readWord cX3_readWord 2 (some .boolean) 1 := ⟨in_ClothesLine_TextReader, cd_X3_readWord, by decide +kernel, by decide +kernel, by decide +kernel⟩
theorem vy_X3_readWord : cl_vy yX3_readWord := ⟨im_X3_readWord, se_X3_readWord⟩
def f_X3_readNumber_34 (M : cl_M) (t0 : Nat) : Option (Int32 × cl_M) := cl_b2 (f_X3_fail M t0 2) (fun v5 M6 => if cl_bz v5 = true then some (v5, M6) else none)
set_option maxHeartbeats 4000000 in
set_option maxRecDepth 100000 in
theorem k_X3_readNumber_34 {p : Program} {l : Launch} {e : Env} {s : State} {m : MethodId} {args : Array Value} {below : List Frame} {meth : Method} {c : Code} {dd : cl_D} {b : Nat} (C : cl_C p l s m args meth c cX3_readNumber RX3 4 (some .boolean) dd b) : ∀ (M : cl_M) (t0 : Nat) (r : Int32) (M' : cl_M), f_X3_readNumber_34 M t0 = some (r, M') → ∀ (H : Heap) (locs : List Loc) (ls : Array Slot), cl_sh dd t0 = 3 → cl_H dd b M s H locs → lv_has ls 4 [(0, .ref (b + t0))] → W p l e { frames := 3, cells := 0, slots := 0, locals := 60 } s m args below meth c H locs 0 0 (cl_Zi below args s dd b r M') (F0 m 34 ls []) := by
  have hx := C.1
  have hb := C.2.1
  have hlt := C.2.2.2.2.2.2.2.2.2.2
  have hRr := C.2.2.2.2.2.2.2.2.2.1
  intro M t0 r M' hf H locs ls ht0 hw hl
  unfold f_X3_readNumber_34 at hf
  refine lv_aload_n hx hb dX3_readNumber_34 rfl (lv_at hl 0 rfl) ?_
  refine lv_iconst (v := 2) hx hb dX3_readNumber_35 (by decide) ?_
  obtain ⟨v5, M6, e7, hf⟩ := cl_b2_e hf
  refine cr_Vi C hw (c_X3_fail hlt ht0 e7) cy_X3_fail vy_X3_fail ml_X3_101 (cl_lt ht0 (by decide)) (cl_e3 ht0) rfl rfl (As := [.int 2]) rfl hl.1 rfl ⟨⟨Nat.le_of_ble_eq_true rfl, Nat.le_of_ble_eq_true rfl⟩, Nat.le_of_ble_eq_true rfl, Nat.le_of_ble_eq_true rfl, Nat.le_of_ble_eq_true rfl⟩ dX3_readNumber_36 (fun H locs hw => ?_)
  obtain ⟨q8, hf⟩ := cl_grd hf
  obtain ⟨rfl, rfl⟩ := cl_pair hf
  exact cr_retz C hw q8 dX3_readNumber_39
def f_X3_readNumber (M : cl_M) (t0 : Nat) (a1 : Int32) (a2 : Int32) (a3 : Int32) : Option (Int32 × cl_M) := (f_X3_advance M t0).bind (fun M1 => if (M1 t0 3) = 2 then if (M1 t0 5) < a2 then f_X3_readNumber_34 M1 t0 else if (M1 t0 5) ≤ a3 then if cl_inb a1 4 = true then cl_let (cl_ms M1 (t0 + 2) (a1).toNatClampNeg (M1 t0 5)) (fun M11 => some (1, M11)) else none else f_X3_readNumber_34 M1 t0 else cl_b2 (f_X3_fail M1 t0 1) (fun v12 M13 => if cl_bz v12 = true then some (v12, M13) else none))
set_option maxHeartbeats 4000000 in
set_option maxRecDepth 100000 in
theorem k_X3_readNumber {p : Program} {l : Launch} {e : Env} {s : State} {m : MethodId} {args : Array Value} {below : List Frame} {meth : Method} {c : Code} {dd : cl_D} {b : Nat} (C : cl_C p l s m args meth c cX3_readNumber RX3 4 (some .boolean) dd b) : ∀ (M : cl_M) (t0 : Nat) (a1 : Int32) (a2 : Int32) (a3 : Int32) (r : Int32) (M' : cl_M), f_X3_readNumber M t0 a1 a2 a3 = some (r, M') → ∀ (H : Heap) (locs : List Loc) (ls : Array Slot), cl_sh dd t0 = 3 → cl_H dd b M s H locs → lv_has ls 4 [(0, .ref (b + t0)), (1, .int a1), (2, .int a2), (3, .int a3)] → W p l e { frames := 3, cells := 0, slots := 0, locals := 60 } s m args below meth c H locs 0 0 (cl_Zi below args s dd b r M') (F0 m 0 ls []) := by
  have hx := C.1
  have hb := C.2.1
  have hlt := C.2.2.2.2.2.2.2.2.2.2
  have hRr := C.2.2.2.2.2.2.2.2.2.1
  intro M t0 a1 a2 a3 r M' hf H locs ls ht0 hw hl
  unfold f_X3_readNumber at hf
  refine lv_aload_n hx hb dX3_readNumber_0 rfl (lv_at hl 0 rfl) ?_
  obtain ⟨M1, e2, hf⟩ := cl_bind_e hf
  refine cr_Vv C hw (c_X3_advance hlt ht0 e2) cy_X3_advance vy_X3_advance ml_X3_84 (cl_lt ht0 (by decide)) (cl_e3 ht0) rfl rfl (As := []) rfl hl.1 rfl ⟨⟨Nat.le_of_ble_eq_true rfl, Nat.le_of_ble_eq_true rfl⟩, Nat.le_of_ble_eq_true rfl, Nat.le_of_ble_eq_true rfl, Nat.le_of_ble_eq_true rfl⟩ dX3_readNumber_1 (fun H locs hw => ?_)
  refine lv_aload_n hx hb dX3_readNumber_4 rfl (lv_at hl 0 rfl) ?_
  refine fg_X3_87 C hw ht0 dX3_readNumber_5 ?_
  refine lv_iconst (v := 2) hx hb dX3_readNumber_8 (by decide) ?_
  refine lv_icmp_eq (tgt := 18) hx hb dX3_readNumber_9 (by decide) (fun c3 => ?_) (fun c3 => ?_)
  · have hf := cl_yes c3 hf
    refine lv_aload_n hx hb dX3_readNumber_18 rfl (lv_at hl 0 rfl) ?_
    refine fg_X3_120 C hw ht0 dX3_readNumber_19 ?_
    refine lv_iload_n hx hb dX3_readNumber_22 rfl (lv_at hl 2 rfl) ?_
    refine lv_icmp_lt (tgt := 34) hx hb dX3_readNumber_23 (by decide) (fun c4 => ?_) (fun c4 => ?_)
    · have hf := cl_yes c4 hf
      exact k_X3_readNumber_34 C M1 t0 _ _ hf _ _ _ ht0 hw (lv_sub hl [0] rfl)
    · have hf := cl_no c4 hf
      refine lv_aload_n hx hb dX3_readNumber_26 rfl (lv_at hl 0 rfl) ?_
      refine fg_X3_120 C hw ht0 dX3_readNumber_27 ?_
      refine lv_iload_n hx hb dX3_readNumber_30 rfl (lv_at hl 3 rfl) ?_
      refine lv_icmp_le (tgt := 40) hx hb dX3_readNumber_31 (by decide) (fun c9 => ?_) (fun c9 => ?_)
      · have hf := cl_yes c9 hf
        refine lv_aload_n hx hb dX3_readNumber_40 rfl (lv_at hl 0 rfl) ?_
        refine fg_X3_15 C hw ht0 dX3_readNumber_41 ?_
        refine lv_iload_n hx hb dX3_readNumber_44 rfl (lv_at hl 1 rfl) ?_
        refine lv_aload_n hx hb dX3_readNumber_45 rfl (lv_at hl 0 rfl) ?_
        refine fg_X3_120 C hw ht0 dX3_readNumber_46 ?_
        obtain ⟨q10, hf⟩ := cl_grd hf
        obtain ⟨M11, eM11, hf⟩ := cl_let_e hf
        refine cr_iast C hw (sh_3_7 ht0).1 (sh_3_7 ht0).2 q10 (k := (a1).toNatClampNeg) rfl eM11 dX3_readNumber_49 (fun H locs hw => ?_)
        refine lv_iconst (v := 1) hx hb dX3_readNumber_50 (by decide) ?_
        obtain ⟨rfl, rfl⟩ := cl_pair hf
        exact cr_retz C hw (by decide) dX3_readNumber_51
      · have hf := cl_no c9 hf
        exact k_X3_readNumber_34 C M1 t0 _ _ hf _ _ _ ht0 hw (lv_sub hl [0] rfl)
  · have hf := cl_no c3 hf
    refine lv_aload_n hx hb dX3_readNumber_12 rfl (lv_at hl 0 rfl) ?_
    refine lv_iconst (v := 1) hx hb dX3_readNumber_13 (by decide) ?_
    obtain ⟨v12, M13, e14, hf⟩ := cl_b2_e hf
    refine cr_Vi C hw (c_X3_fail hlt ht0 e14) cy_X3_fail vy_X3_fail ml_X3_101 (cl_lt ht0 (by decide)) (cl_e3 ht0) rfl rfl (As := [.int 1]) rfl hl.1 rfl ⟨⟨Nat.le_of_ble_eq_true rfl, Nat.le_of_ble_eq_true rfl⟩, Nat.le_of_ble_eq_true rfl, Nat.le_of_ble_eq_true rfl, Nat.le_of_ble_eq_true rfl⟩ dX3_readNumber_14 (fun H locs hw => ?_)
    obtain ⟨q15, hf⟩ := cl_grd hf
    obtain ⟨rfl, rfl⟩ := cl_pair hf
    exact cr_retz C hw q15 dX3_readNumber_17
set_option maxRecDepth 100000 in
theorem c_X3_readNumber {l : Launch} {dd : cl_D} {b : Nat} (hlt : l.stackTraces = false) {M : cl_M} {t0 : Nat} {a1 : Int32} {a2 : Int32} {a3 : Int32}  {r : Int32} {M' : cl_M} (ht0 : cl_sh dd t0 = 3) (h : f_X3_readNumber M t0 a1 a2 a3 = some (r, M')) : cl_Mi l dd b yX3_readNumber cX3_readNumber 4 (some .boolean) 3 60 [.ref (b + t0), .int a1, .int a2, .int a3] M r M' :=
  cl_of hlt (by decide) (Nat.le_of_ble_eq_true rfl) (fun p e s m below meth c ls C hw hl => k_X3_readNumber C M t0 a1 a2 a3 r M' h _ _ _ ht0 hw (lv_sub hl [0, 1, 2, 3] rfl))
theorem cy_X3_readNumber : cl_cy yX3_readNumber cX3_readNumber 4 (some .boolean) 3 := ⟨in_ClothesLine_TextReader, cd_X3_readNumber, by decide +kernel, by decide +kernel, by decide +kernel⟩
theorem vy_X3_readNumber : cl_vy yX3_readNumber := ⟨im_X3_readNumber, se_X3_readNumber⟩
def f_X3_readSemicolon_25 (M : cl_M) (z0 : Int32) : Option (Int32 × cl_M) := if cl_bz z0 = true then some (z0, M) else none
set_option maxHeartbeats 4000000 in
set_option maxRecDepth 100000 in
theorem k_X3_readSemicolon_25 {p : Program} {l : Launch} {e : Env} {s : State} {m : MethodId} {args : Array Value} {below : List Frame} {meth : Method} {c : Code} {dd : cl_D} {b : Nat} (C : cl_C p l s m args meth c cX3_readSemicolon RX3 1 (some .boolean) dd b) : ∀ (M : cl_M) (z0 : Int32) (r : Int32) (M' : cl_M), f_X3_readSemicolon_25 M z0 = some (r, M') → ∀ (H : Heap) (locs : List Loc) (ls : Array Slot), cl_H dd b M s H locs → lv_has ls 1 [] → W p l e { frames := 3, cells := 0, slots := 0, locals := 60 } s m args below meth c H locs 0 0 (cl_Zi below args s dd b r M') (F0 m 25 ls [.int z0]) := by
  have hx := C.1
  have hb := C.2.1
  have hlt := C.2.2.2.2.2.2.2.2.2.2
  have hRr := C.2.2.2.2.2.2.2.2.2.1
  intro M z0 r M' hf H locs ls hw hl
  unfold f_X3_readSemicolon_25 at hf
  obtain ⟨q4, hf⟩ := cl_grd hf
  obtain ⟨rfl, rfl⟩ := cl_pair hf
  exact cr_retz C hw q4 dX3_readSemicolon_25
def f_X3_readSemicolon_20 (M : cl_M) : Option (Int32 × cl_M) := f_X3_readSemicolon_25 M 1
set_option maxHeartbeats 4000000 in
set_option maxRecDepth 100000 in
theorem k_X3_readSemicolon_20 {p : Program} {l : Launch} {e : Env} {s : State} {m : MethodId} {args : Array Value} {below : List Frame} {meth : Method} {c : Code} {dd : cl_D} {b : Nat} (C : cl_C p l s m args meth c cX3_readSemicolon RX3 1 (some .boolean) dd b) : ∀ (M : cl_M) (r : Int32) (M' : cl_M), f_X3_readSemicolon_20 M = some (r, M') → ∀ (H : Heap) (locs : List Loc) (ls : Array Slot), cl_H dd b M s H locs → lv_has ls 1 [] → W p l e { frames := 3, cells := 0, slots := 0, locals := 60 } s m args below meth c H locs 0 0 (cl_Zi below args s dd b r M') (F0 m 20 ls []) := by
  have hx := C.1
  have hb := C.2.1
  have hlt := C.2.2.2.2.2.2.2.2.2.2
  have hRr := C.2.2.2.2.2.2.2.2.2.1
  intro M r M' hf H locs ls hw hl
  unfold f_X3_readSemicolon_20 at hf
  refine lv_iconst (v := 1) hx hb dX3_readSemicolon_20 (by decide) ?_
  refine lv_goto (tgt := 25) hx hb dX3_readSemicolon_21 (by decide) ?_
  exact k_X3_readSemicolon_25 C M 1 _ _ hf _ _ _ hw (lv_sub hl [] rfl)
def f_X3_readSemicolon (M : cl_M) (t0 : Nat) : Option (Int32 × cl_M) := (f_X3_advance M t0).bind (fun M1 => if (M1 t0 3) = 3 then f_X3_readSemicolon_20 M1 else cl_b2 (f_X3_fail M1 t0 1) (fun v5 M6 => if v5 = 0 then f_X3_readSemicolon_25 M6 0 else f_X3_readSemicolon_20 M6))
set_option maxHeartbeats 4000000 in
set_option maxRecDepth 100000 in
theorem k_X3_readSemicolon {p : Program} {l : Launch} {e : Env} {s : State} {m : MethodId} {args : Array Value} {below : List Frame} {meth : Method} {c : Code} {dd : cl_D} {b : Nat} (C : cl_C p l s m args meth c cX3_readSemicolon RX3 1 (some .boolean) dd b) : ∀ (M : cl_M) (t0 : Nat) (r : Int32) (M' : cl_M), f_X3_readSemicolon M t0 = some (r, M') → ∀ (H : Heap) (locs : List Loc) (ls : Array Slot), cl_sh dd t0 = 3 → cl_H dd b M s H locs → lv_has ls 1 [(0, .ref (b + t0))] → W p l e { frames := 3, cells := 0, slots := 0, locals := 60 } s m args below meth c H locs 0 0 (cl_Zi below args s dd b r M') (F0 m 0 ls []) := by
  have hx := C.1
  have hb := C.2.1
  have hlt := C.2.2.2.2.2.2.2.2.2.2
  have hRr := C.2.2.2.2.2.2.2.2.2.1
  intro M t0 r M' hf H locs ls ht0 hw hl
  unfold f_X3_readSemicolon at hf
  refine lv_aload_n hx hb dX3_readSemicolon_0 rfl (lv_at hl 0 rfl) ?_
  obtain ⟨M1, e2, hf⟩ := cl_bind_e hf
  refine cr_Vv C hw (c_X3_advance hlt ht0 e2) cy_X3_advance vy_X3_advance ml_X3_84 (cl_lt ht0 (by decide)) (cl_e3 ht0) rfl rfl (As := []) rfl hl.1 rfl ⟨⟨Nat.le_of_ble_eq_true rfl, Nat.le_of_ble_eq_true rfl⟩, Nat.le_of_ble_eq_true rfl, Nat.le_of_ble_eq_true rfl, Nat.le_of_ble_eq_true rfl⟩ dX3_readSemicolon_1 (fun H locs hw => ?_)
  refine lv_aload_n hx hb dX3_readSemicolon_4 rfl (lv_at hl 0 rfl) ?_
  refine fg_X3_87 C hw ht0 dX3_readSemicolon_5 ?_
  refine lv_iconst (v := 3) hx hb dX3_readSemicolon_8 (by decide) ?_
  refine lv_icmp_eq (tgt := 20) hx hb dX3_readSemicolon_9 (by decide) (fun c3 => ?_) (fun c3 => ?_)
  · have hf := cl_yes c3 hf
    exact k_X3_readSemicolon_20 C M1 _ _ hf _ _ _ hw (lv_sub hl [] rfl)
  · have hf := cl_no c3 hf
    refine lv_aload_n hx hb dX3_readSemicolon_12 rfl (lv_at hl 0 rfl) ?_
    refine lv_iconst (v := 1) hx hb dX3_readSemicolon_13 (by decide) ?_
    obtain ⟨v5, M6, e7, hf⟩ := cl_b2_e hf
    refine cr_Vi C hw (c_X3_fail hlt ht0 e7) cy_X3_fail vy_X3_fail ml_X3_101 (cl_lt ht0 (by decide)) (cl_e3 ht0) rfl rfl (As := [.int 1]) rfl hl.1 rfl ⟨⟨Nat.le_of_ble_eq_true rfl, Nat.le_of_ble_eq_true rfl⟩, Nat.le_of_ble_eq_true rfl, Nat.le_of_ble_eq_true rfl, Nat.le_of_ble_eq_true rfl⟩ dX3_readSemicolon_14 (fun H locs hw => ?_)
    refine lv_if_eq (tgt := 24) hx hb dX3_readSemicolon_17 (by decide) (fun c8 => ?_) (fun c8 => ?_)
    · have hf := cl_yes c8 hf
      refine lv_iconst (v := 0) hx hb dX3_readSemicolon_24 (by decide) ?_
      exact k_X3_readSemicolon_25 C M6 0 _ _ hf _ _ _ hw (lv_sub hl [] rfl)
    · have hf := cl_no c8 hf
      exact k_X3_readSemicolon_20 C M6 _ _ hf _ _ _ hw (lv_sub hl [] rfl)
set_option maxRecDepth 100000 in
theorem c_X3_readSemicolon {l : Launch} {dd : cl_D} {b : Nat} (hlt : l.stackTraces = false) {M : cl_M} {t0 : Nat}  {r : Int32} {M' : cl_M} (ht0 : cl_sh dd t0 = 3) (h : f_X3_readSemicolon M t0 = some (r, M')) : cl_Mi l dd b yX3_readSemicolon cX3_readSemicolon 1 (some .boolean) 3 60 [.ref (b + t0)] M r M' :=
  cl_of hlt (by decide) (Nat.le_of_ble_eq_true rfl) (fun p e s m below meth c ls C hw hl => k_X3_readSemicolon C M t0 r M' h _ _ _ ht0 hw (lv_sub hl [0] rfl))
theorem cy_X3_readSemicolon : cl_cy yX3_readSemicolon cX3_readSemicolon 1 (some .boolean) 0 := ⟨in_ClothesLine_TextReader, cd_X3_readSemicolon, by decide +kernel, by decide +kernel, by decide +kernel⟩
theorem vy_X3_readSemicolon : cl_vy yX3_readSemicolon := ⟨im_X3_readSemicolon, se_X3_readSemicolon⟩
def f_X3_readPattern_26 (r2 : cl_M → Nat → Nat → Int32 → Option (Int32 × cl_M)) (M : cl_M) (t0 : Nat) (t1 : Nat) (a2 : Int32) : Option (Int32 × cl_M) := if (M t0 3) = 2 then if (M t0 5) ≤ 5 then if a2 = 8 then cl_b2 (f_X3_fail M t0 4) (fun v11 M12 => if cl_bz v11 = true then some (v11, M12) else none) else (f_X4_appendWind M t1 (M t0 5)).bind (fun M8 => cl_let (a2 + 1) (fun v10 => r2 M8 t0 t1 v10)) else cl_b2 (f_X3_fail M t0 2) (fun v15 M16 => if cl_bz v15 = true then some (v15, M16) else none) else cl_b2 (f_X3_fail M t0 1) (fun v19 M20 => if cl_bz v19 = true then some (v19, M20) else none)
set_option maxHeartbeats 4000000 in
set_option maxRecDepth 100000 in
theorem k_X3_readPattern_26 {p : Program} {l : Launch} {e : Env} {s : State} {m : MethodId} {args : Array Value} {below : List Frame} {meth : Method} {c : Code} {dd : cl_D} {b : Nat} (C : cl_C p l s m args meth c cX3_readPattern RX3 3 (some .boolean) dd b) {r2 : cl_M → Nat → Nat → Int32 → Option (Int32 × cl_M)} (hr2 : ∀ (M : cl_M) (t0 : Nat) (t1 : Nat) (a2 : Int32) (r : Int32) (M' : cl_M), r2 M t0 t1 a2 = some (r, M') → ∀ (H : Heap) (locs : List Loc) (ls : Array Slot), cl_sh dd t0 = 3 → cl_sh dd t1 = 4 → cl_H dd b M s H locs → lv_has ls 3 [(0, .ref (b + t0)), (1, .ref (b + t1)), (2, .int a2)] → W p l e { frames := 3, cells := 0, slots := 0, locals := 60 } s m args below meth c H locs 0 0 (cl_Zi below args s dd b r M') (F0 m 2 ls [])) : ∀ (M : cl_M) (t0 : Nat) (t1 : Nat) (a2 : Int32) (r : Int32) (M' : cl_M), f_X3_readPattern_26 r2 M t0 t1 a2 = some (r, M') → ∀ (H : Heap) (locs : List Loc) (ls : Array Slot), cl_sh dd t0 = 3 → cl_sh dd t1 = 4 → cl_H dd b M s H locs → lv_has ls 3 [(0, .ref (b + t0)), (1, .ref (b + t1)), (2, .int a2)] → W p l e { frames := 3, cells := 0, slots := 0, locals := 60 } s m args below meth c H locs 0 0 (cl_Zi below args s dd b r M') (F0 m 26 ls []) := by
  have hx := C.1
  have hb := C.2.1
  have hlt := C.2.2.2.2.2.2.2.2.2.2
  have hRr := C.2.2.2.2.2.2.2.2.2.1
  intro M t0 t1 a2 r M' hf H locs ls ht0 ht1 hw hl
  unfold f_X3_readPattern_26 at hf
  refine lv_aload_n hx hb dX3_readPattern_26 rfl (lv_at hl 0 rfl) ?_
  refine fg_X3_87 C hw ht0 dX3_readPattern_27 ?_
  refine lv_iconst (v := 2) hx hb dX3_readPattern_30 (by decide) ?_
  refine lv_icmp_eq (tgt := 40) hx hb dX3_readPattern_31 (by decide) (fun c5 => ?_) (fun c5 => ?_)
  · have hf := cl_yes c5 hf
    refine lv_aload_n hx hb dX3_readPattern_40 rfl (lv_at hl 0 rfl) ?_
    refine fg_X3_120 C hw ht0 dX3_readPattern_41 ?_
    refine lv_iconst (v := 5) hx hb dX3_readPattern_44 (by decide) ?_
    refine lv_icmp_le (tgt := 54) hx hb dX3_readPattern_45 (by decide) (fun c6 => ?_) (fun c6 => ?_)
    · have hf := cl_yes c6 hf
      refine lv_iload_n hx hb dX3_readPattern_54 rfl (lv_at hl 2 rfl) ?_
      refine lv_bipush (v := 8) hx hb dX3_readPattern_55 (by decide) ?_
      refine lv_icmp_ne (tgt := 66) hx hb dX3_readPattern_57 (by decide) (fun c7 => ?_) (fun c7 => ?_)
      · have hf := cl_no c7 hf
        refine lv_aload_n hx hb dX3_readPattern_66 rfl (lv_at hl 1 rfl) ?_
        refine lv_aload_n hx hb dX3_readPattern_67 rfl (lv_at hl 0 rfl) ?_
        refine fg_X3_120 C hw ht0 dX3_readPattern_68 ?_
        obtain ⟨M8, e9, hf⟩ := cl_bind_e hf
        refine cr_Vv C hw (c_X4_appendWind hlt ht1 e9) cy_X4_appendWind vy_X4_appendWind ml_X3_133 (cl_lt ht1 (by decide)) (cl_e4 ht1) rfl rfl (As := [.int (M t0 5)]) rfl hl.1 rfl ⟨⟨Nat.le_of_ble_eq_true rfl, Nat.le_of_ble_eq_true rfl⟩, Nat.le_of_ble_eq_true rfl, Nat.le_of_ble_eq_true rfl, Nat.le_of_ble_eq_true rfl⟩ dX3_readPattern_71 (fun H locs hw => ?_)
        obtain ⟨v10, ev10, hf⟩ := cl_let_e hf
        refine lv_iinc (v := v10) (lv' := [(2, .int v10), (0, .ref (b + t0)), (1, .ref (b + t1))]) hx hb dX3_readPattern_74 hl (k := 2) rfl (by rw [ev10]; rfl) (by decide) rfl (fun ls hl => ?_)
        refine lv_goto (tgt := 2) hx hb dX3_readPattern_77 (by decide) ?_
        exact hr2 M8 t0 t1 v10 _ _ hf _ _ _ ht0 ht1 hw (lv_sub hl [1, 2, 0] rfl)
      · have hf := cl_yes c7 hf
        refine lv_aload_n hx hb dX3_readPattern_60 rfl (lv_at hl 0 rfl) ?_
        refine lv_iconst (v := 4) hx hb dX3_readPattern_61 (by decide) ?_
        obtain ⟨v11, M12, e13, hf⟩ := cl_b2_e hf
        refine cr_Vi C hw (c_X3_fail hlt ht0 e13) cy_X3_fail vy_X3_fail ml_X3_101 (cl_lt ht0 (by decide)) (cl_e3 ht0) rfl rfl (As := [.int 4]) rfl hl.1 rfl ⟨⟨Nat.le_of_ble_eq_true rfl, Nat.le_of_ble_eq_true rfl⟩, Nat.le_of_ble_eq_true rfl, Nat.le_of_ble_eq_true rfl, Nat.le_of_ble_eq_true rfl⟩ dX3_readPattern_62 (fun H locs hw => ?_)
        obtain ⟨q14, hf⟩ := cl_grd hf
        obtain ⟨rfl, rfl⟩ := cl_pair hf
        exact cr_retz C hw q14 dX3_readPattern_65
    · have hf := cl_no c6 hf
      refine lv_aload_n hx hb dX3_readPattern_48 rfl (lv_at hl 0 rfl) ?_
      refine lv_iconst (v := 2) hx hb dX3_readPattern_49 (by decide) ?_
      obtain ⟨v15, M16, e17, hf⟩ := cl_b2_e hf
      refine cr_Vi C hw (c_X3_fail hlt ht0 e17) cy_X3_fail vy_X3_fail ml_X3_101 (cl_lt ht0 (by decide)) (cl_e3 ht0) rfl rfl (As := [.int 2]) rfl hl.1 rfl ⟨⟨Nat.le_of_ble_eq_true rfl, Nat.le_of_ble_eq_true rfl⟩, Nat.le_of_ble_eq_true rfl, Nat.le_of_ble_eq_true rfl, Nat.le_of_ble_eq_true rfl⟩ dX3_readPattern_50 (fun H locs hw => ?_)
      obtain ⟨q18, hf⟩ := cl_grd hf
      obtain ⟨rfl, rfl⟩ := cl_pair hf
      exact cr_retz C hw q18 dX3_readPattern_53
  · have hf := cl_no c5 hf
    refine lv_aload_n hx hb dX3_readPattern_34 rfl (lv_at hl 0 rfl) ?_
    refine lv_iconst (v := 1) hx hb dX3_readPattern_35 (by decide) ?_
    obtain ⟨v19, M20, e21, hf⟩ := cl_b2_e hf
    refine cr_Vi C hw (c_X3_fail hlt ht0 e21) cy_X3_fail vy_X3_fail ml_X3_101 (cl_lt ht0 (by decide)) (cl_e3 ht0) rfl rfl (As := [.int 1]) rfl hl.1 rfl ⟨⟨Nat.le_of_ble_eq_true rfl, Nat.le_of_ble_eq_true rfl⟩, Nat.le_of_ble_eq_true rfl, Nat.le_of_ble_eq_true rfl, Nat.le_of_ble_eq_true rfl⟩ dX3_readPattern_36 (fun H locs hw => ?_)
    obtain ⟨q22, hf⟩ := cl_grd hf
    obtain ⟨rfl, rfl⟩ := cl_pair hf
    exact cr_retz C hw q22 dX3_readPattern_39
def f_X3_readPattern_2 : Nat → cl_M → Nat → Nat → Int32 → Option (Int32 × cl_M)
  | 0, _, _, _, _ => none
  | k + 1, M, t0, t1, a2 => if 8 < a2 then some (0, M) else (f_X3_advance M t0).bind (fun M2 => if a2 ≤ 0 then f_X3_readPattern_26 (f_X3_readPattern_2 k) M2 t0 t1 a2 else if (M2 t0 3) = 3 then some (1, M2) else f_X3_readPattern_26 (f_X3_readPattern_2 k) M2 t0 t1 a2)
set_option maxHeartbeats 4000000 in
set_option maxRecDepth 100000 in
theorem k_X3_readPattern_2 {p : Program} {l : Launch} {e : Env} {s : State} {m : MethodId} {args : Array Value} {below : List Frame} {meth : Method} {c : Code} {dd : cl_D} {b : Nat} (C : cl_C p l s m args meth c cX3_readPattern RX3 3 (some .boolean) dd b) : ∀ (k : Nat), ∀ (M : cl_M) (t0 : Nat) (t1 : Nat) (a2 : Int32) (r : Int32) (M' : cl_M), f_X3_readPattern_2 k M t0 t1 a2 = some (r, M') → ∀ (H : Heap) (locs : List Loc) (ls : Array Slot), cl_sh dd t0 = 3 → cl_sh dd t1 = 4 → cl_H dd b M s H locs → lv_has ls 3 [(0, .ref (b + t0)), (1, .ref (b + t1)), (2, .int a2)] → W p l e { frames := 3, cells := 0, slots := 0, locals := 60 } s m args below meth c H locs 0 0 (cl_Zi below args s dd b r M') (F0 m 2 ls []) := by
  have hx := C.1
  have hb := C.2.1
  have hlt := C.2.2.2.2.2.2.2.2.2.2
  have hRr := C.2.2.2.2.2.2.2.2.2.1
  intro k
  induction k with
  | zero =>
    intro M t0 t1 a2 r M' hf H locs ls ht0 ht1 hw hl
    rw [f_X3_readPattern_2] at hf
    cases hf
  | succ k ih =>
    intro M t0 t1 a2 r M' hf H locs ls ht0 ht1 hw hl
    rw [f_X3_readPattern_2] at hf
    refine lv_iload_n hx hb dX3_readPattern_2 rfl (lv_at hl 2 rfl) ?_
    refine lv_bipush (v := 8) hx hb dX3_readPattern_3 (by decide) ?_
    refine lv_icmp_gt (tgt := 80) hx hb dX3_readPattern_5 (by decide) (fun c1 => ?_) (fun c1 => ?_)
    · have hf := cl_yes c1 hf
      refine lv_iconst (v := 0) hx hb dX3_readPattern_80 (by decide) ?_
      obtain ⟨rfl, rfl⟩ := cl_pair hf
      exact cr_retz C hw (by decide) dX3_readPattern_81
    · have hf := cl_no c1 hf
      refine lv_aload_n hx hb dX3_readPattern_8 rfl (lv_at hl 0 rfl) ?_
      obtain ⟨M2, e3, hf⟩ := cl_bind_e hf
      refine cr_Vv C hw (c_X3_advance hlt ht0 e3) cy_X3_advance vy_X3_advance ml_X3_84 (cl_lt ht0 (by decide)) (cl_e3 ht0) rfl rfl (As := []) rfl hl.1 rfl ⟨⟨Nat.le_of_ble_eq_true rfl, Nat.le_of_ble_eq_true rfl⟩, Nat.le_of_ble_eq_true rfl, Nat.le_of_ble_eq_true rfl, Nat.le_of_ble_eq_true rfl⟩ dX3_readPattern_9 (fun H locs hw => ?_)
      refine lv_iload_n hx hb dX3_readPattern_12 rfl (lv_at hl 2 rfl) ?_
      refine lv_if_le (tgt := 26) hx hb dX3_readPattern_13 (by decide) (fun c4 => ?_) (fun c4 => ?_)
      · have hf := cl_yes c4 hf
        exact k_X3_readPattern_26 C ih M2 t0 t1 a2 _ _ hf _ _ _ ht0 ht1 hw (lv_sub hl [0, 1, 2] rfl)
      · have hf := cl_no c4 hf
        refine lv_aload_n hx hb dX3_readPattern_16 rfl (lv_at hl 0 rfl) ?_
        refine fg_X3_87 C hw ht0 dX3_readPattern_17 ?_
        refine lv_iconst (v := 3) hx hb dX3_readPattern_20 (by decide) ?_
        refine lv_icmp_ne (tgt := 26) hx hb dX3_readPattern_21 (by decide) (fun c23 => ?_) (fun c23 => ?_)
        · have hf := cl_no c23 hf
          exact k_X3_readPattern_26 C ih M2 t0 t1 a2 _ _ hf _ _ _ ht0 ht1 hw (lv_sub hl [0, 1, 2] rfl)
        · have hf := cl_yes c23 hf
          refine lv_iconst (v := 1) hx hb dX3_readPattern_24 (by decide) ?_
          obtain ⟨rfl, rfl⟩ := cl_pair hf
          exact cr_retz C hw (by decide) dX3_readPattern_25
def f_X3_readPattern (M : cl_M) (t0 : Nat) (t1 : Nat) : Option (Int32 × cl_M) := f_X3_readPattern_2 cl_F M t0 t1 0
set_option maxHeartbeats 4000000 in
set_option maxRecDepth 100000 in
theorem k_X3_readPattern {p : Program} {l : Launch} {e : Env} {s : State} {m : MethodId} {args : Array Value} {below : List Frame} {meth : Method} {c : Code} {dd : cl_D} {b : Nat} (C : cl_C p l s m args meth c cX3_readPattern RX3 3 (some .boolean) dd b) : ∀ (M : cl_M) (t0 : Nat) (t1 : Nat) (r : Int32) (M' : cl_M), f_X3_readPattern M t0 t1 = some (r, M') → ∀ (H : Heap) (locs : List Loc) (ls : Array Slot), cl_sh dd t0 = 3 → cl_sh dd t1 = 4 → cl_H dd b M s H locs → lv_has ls 3 [(0, .ref (b + t0)), (1, .ref (b + t1))] → W p l e { frames := 3, cells := 0, slots := 0, locals := 60 } s m args below meth c H locs 0 0 (cl_Zi below args s dd b r M') (F0 m 0 ls []) := by
  have hx := C.1
  have hb := C.2.1
  have hlt := C.2.2.2.2.2.2.2.2.2.2
  have hRr := C.2.2.2.2.2.2.2.2.2.1
  intro M t0 t1 r M' hf H locs ls ht0 ht1 hw hl
  unfold f_X3_readPattern at hf
  refine lv_iconst (v := 0) hx hb dX3_readPattern_0 (by decide) ?_
  refine lv_istore_n (lv' := [(2, .int 0), (0, .ref (b + t0)), (1, .ref (b + t1))]) hx hb dX3_readPattern_1 rfl hl (by decide) rfl (fun ls hl => ?_)
  exact k_X3_readPattern_2 C cl_F M t0 t1 0 _ _ hf _ _ _ ht0 ht1 hw (lv_sub hl [1, 2, 0] rfl)
set_option maxRecDepth 100000 in
theorem c_X3_readPattern {l : Launch} {dd : cl_D} {b : Nat} (hlt : l.stackTraces = false) {M : cl_M} {t0 : Nat} {t1 : Nat}  {r : Int32} {M' : cl_M} (ht0 : cl_sh dd t0 = 3) (ht1 : cl_sh dd t1 = 4) (h : f_X3_readPattern M t0 t1 = some (r, M')) : cl_Mi l dd b yX3_readPattern cX3_readPattern 3 (some .boolean) 3 60 [.ref (b + t0), .ref (b + t1)] M r M' :=
  cl_of hlt (by decide) (Nat.le_of_ble_eq_true rfl) (fun p e s m below meth c ls C hw hl => k_X3_readPattern C M t0 t1 r M' h _ _ _ ht0 ht1 hw (lv_sub hl [0, 1] rfl))
theorem cy_X3_readPattern : cl_cy yX3_readPattern cX3_readPattern 3 (some .boolean) 1 := ⟨in_ClothesLine_TextReader, cd_X3_readPattern, by decide +kernel, by decide +kernel, by decide +kernel⟩
theorem vy_X3_readPattern : cl_vy yX3_readPattern := ⟨im_X3_readPattern, se_X3_readPattern⟩
def f_X3_readHead_102 (M : cl_M) (z0 : Int32) : Option (Int32 × cl_M) := if cl_bz z0 = true then some (z0, M) else none
set_option maxHeartbeats 4000000 in
set_option maxRecDepth 100000 in
theorem k_X3_readHead_102 {p : Program} {l : Launch} {e : Env} {s : State} {m : MethodId} {args : Array Value} {below : List Frame} {meth : Method} {c : Code} {dd : cl_D} {b : Nat} (C : cl_C p l s m args meth c cX3_readHead RX3 2 (some .boolean) dd b) : ∀ (M : cl_M) (z0 : Int32) (r : Int32) (M' : cl_M), f_X3_readHead_102 M z0 = some (r, M') → ∀ (H : Heap) (locs : List Loc) (ls : Array Slot), cl_H dd b M s H locs → lv_has ls 2 [] → W p l e { frames := 6, cells := 0, slots := 0, locals := 128 } s m args below meth c H locs 0 0 (cl_Zi below args s dd b r M') (F0 m 102 ls [.int z0]) := by
  have hx := C.1
  have hb := C.2.1
  have hlt := C.2.2.2.2.2.2.2.2.2.2
  have hRr := C.2.2.2.2.2.2.2.2.2.1
  intro M z0 r M' hf H locs ls hw hl
  unfold f_X3_readHead_102 at hf
  obtain ⟨q29, hf⟩ := cl_grd hf
  obtain ⟨rfl, rfl⟩ := cl_pair hf
  exact cr_retz C hw q29 dX3_readHead_102
def f_X3_readHead (M : cl_M) (t0 : Nat) (t1 : Nat) : Option (Int32 × cl_M) := (f_X3_begin M t0).bind (fun M1 => cl_b2 (f_X3_readWord M1 t0 0) (fun v3 M4 => if v3 = 0 then some (0, M4) else cl_b2 (f_X3_readNumber M4 t0 0 0 30) (fun v7 M8 => if v7 = 0 then some (0, M8) else cl_b2 (f_X3_readNumber M8 t0 1 0 30) (fun v11 M12 => if v11 = 0 then some (0, M12) else cl_b2 (f_X3_readNumber M12 t0 2 0 24) (fun v15 M16 => if v15 = 0 then some (0, M16) else cl_b2 (f_X3_readSemicolon M16 t0) (fun v19 M20 => if v19 = 0 then some (0, M20) else (f_X2_clear M20 t1 (M20 (t0 + 2) 0) (M20 (t0 + 2) 1) (M20 (t0 + 2) 2)).bind (fun M23 => cl_b2 (f_X3_readWord M23 t0 1) (fun v25 M26 => if v25 = 0 then f_X3_readHead_102 M26 0 else cl_b2 (f_X3_readPattern M26 t0 (t1 + 1)) (fun v30 M31 => if v30 = 0 then f_X3_readHead_102 M31 0 else f_X3_readHead_102 M31 1)))))))))
set_option maxHeartbeats 4000000 in
set_option maxRecDepth 100000 in
theorem k_X3_readHead {p : Program} {l : Launch} {e : Env} {s : State} {m : MethodId} {args : Array Value} {below : List Frame} {meth : Method} {c : Code} {dd : cl_D} {b : Nat} (C : cl_C p l s m args meth c cX3_readHead RX3 2 (some .boolean) dd b) : ∀ (M : cl_M) (t0 : Nat) (t1 : Nat) (r : Int32) (M' : cl_M), f_X3_readHead M t0 t1 = some (r, M') → ∀ (H : Heap) (locs : List Loc) (ls : Array Slot), cl_sh dd t0 = 3 → cl_sh dd t1 = 2 → cl_H dd b M s H locs → lv_has ls 2 [(0, .ref (b + t0)), (1, .ref (b + t1))] → W p l e { frames := 6, cells := 0, slots := 0, locals := 128 } s m args below meth c H locs 0 0 (cl_Zi below args s dd b r M') (F0 m 0 ls []) := by
  have hx := C.1
  have hb := C.2.1
  have hlt := C.2.2.2.2.2.2.2.2.2.2
  have hRr := C.2.2.2.2.2.2.2.2.2.1
  intro M t0 t1 r M' hf H locs ls ht0 ht1 hw hl
  unfold f_X3_readHead at hf
  refine lv_aload_n hx hb dX3_readHead_0 rfl (lv_at hl 0 rfl) ?_
  obtain ⟨M1, e2, hf⟩ := cl_bind_e hf
  refine cr_Vv C hw (c_X3_begin hlt ht0 e2) cy_X3_begin vy_X3_begin ml_X3_51 (cl_lt ht0 (by decide)) (cl_e3 ht0) rfl rfl (As := []) rfl hl.1 rfl ⟨⟨Nat.le_of_ble_eq_true rfl, Nat.le_of_ble_eq_true rfl⟩, Nat.le_of_ble_eq_true rfl, Nat.le_of_ble_eq_true rfl, Nat.le_of_ble_eq_true rfl⟩ dX3_readHead_1 (fun H locs hw => ?_)
  refine lv_aload_n hx hb dX3_readHead_4 rfl (lv_at hl 0 rfl) ?_
  refine va_ldcS hx hb C.2.2.2.1 (sr_0 hRr) dX3_readHead_5 ?_
  obtain ⟨v3, M4, e5, hf⟩ := cl_b2_e hf
  refine cr_Vi C hw (c_X3_readWord hlt ht0 (by decide) e5) cy_X3_readWord vy_X3_readWord ml_X3_56 (cl_lt ht0 (by decide)) (cl_e3 ht0) rfl rfl (As := [.ref (dd.2.2.1 0)]) rfl hl.1 rfl ⟨⟨Nat.le_of_ble_eq_true rfl, Nat.le_of_ble_eq_true rfl⟩, Nat.le_of_ble_eq_true rfl, Nat.le_of_ble_eq_true rfl, Nat.le_of_ble_eq_true rfl⟩ dX3_readHead_7 (fun H locs hw => ?_)
  refine lv_if_eq (tgt := 53) hx hb dX3_readHead_10 (by decide) (fun c6 => ?_) (fun c6 => ?_)
  · have hf := cl_yes c6 hf
    refine lv_iconst (v := 0) hx hb dX3_readHead_53 (by decide) ?_
    obtain ⟨rfl, rfl⟩ := cl_pair hf
    exact cr_retz C hw (by decide) dX3_readHead_54
  · have hf := cl_no c6 hf
    refine lv_aload_n hx hb dX3_readHead_13 rfl (lv_at hl 0 rfl) ?_
    refine lv_iconst (v := 0) hx hb dX3_readHead_14 (by decide) ?_
    refine lv_iconst (v := 0) hx hb dX3_readHead_15 (by decide) ?_
    refine lv_bipush (v := 30) hx hb dX3_readHead_16 (by decide) ?_
    obtain ⟨v7, M8, e9, hf⟩ := cl_b2_e hf
    refine cr_Vi C hw (c_X3_readNumber hlt ht0 e9) cy_X3_readNumber vy_X3_readNumber ml_X3_60 (cl_lt ht0 (by decide)) (cl_e3 ht0) rfl rfl (As := [.int 0, .int 0, .int 30]) rfl hl.1 rfl ⟨⟨Nat.le_of_ble_eq_true rfl, Nat.le_of_ble_eq_true rfl⟩, Nat.le_of_ble_eq_true rfl, Nat.le_of_ble_eq_true rfl, Nat.le_of_ble_eq_true rfl⟩ dX3_readHead_18 (fun H locs hw => ?_)
    refine lv_if_eq (tgt := 53) hx hb dX3_readHead_21 (by decide) (fun c10 => ?_) (fun c10 => ?_)
    · have hf := cl_yes c10 hf
      refine lv_iconst (v := 0) hx hb dX3_readHead_53 (by decide) ?_
      obtain ⟨rfl, rfl⟩ := cl_pair hf
      exact cr_retz C hw (by decide) dX3_readHead_54
    · have hf := cl_no c10 hf
      refine lv_aload_n hx hb dX3_readHead_24 rfl (lv_at hl 0 rfl) ?_
      refine lv_iconst (v := 1) hx hb dX3_readHead_25 (by decide) ?_
      refine lv_iconst (v := 0) hx hb dX3_readHead_26 (by decide) ?_
      refine lv_bipush (v := 30) hx hb dX3_readHead_27 (by decide) ?_
      obtain ⟨v11, M12, e13, hf⟩ := cl_b2_e hf
      refine cr_Vi C hw (c_X3_readNumber hlt ht0 e13) cy_X3_readNumber vy_X3_readNumber ml_X3_60 (cl_lt ht0 (by decide)) (cl_e3 ht0) rfl rfl (As := [.int 1, .int 0, .int 30]) rfl hl.1 rfl ⟨⟨Nat.le_of_ble_eq_true rfl, Nat.le_of_ble_eq_true rfl⟩, Nat.le_of_ble_eq_true rfl, Nat.le_of_ble_eq_true rfl, Nat.le_of_ble_eq_true rfl⟩ dX3_readHead_29 (fun H locs hw => ?_)
      refine lv_if_eq (tgt := 53) hx hb dX3_readHead_32 (by decide) (fun c14 => ?_) (fun c14 => ?_)
      · have hf := cl_yes c14 hf
        refine lv_iconst (v := 0) hx hb dX3_readHead_53 (by decide) ?_
        obtain ⟨rfl, rfl⟩ := cl_pair hf
        exact cr_retz C hw (by decide) dX3_readHead_54
      · have hf := cl_no c14 hf
        refine lv_aload_n hx hb dX3_readHead_35 rfl (lv_at hl 0 rfl) ?_
        refine lv_iconst (v := 2) hx hb dX3_readHead_36 (by decide) ?_
        refine lv_iconst (v := 0) hx hb dX3_readHead_37 (by decide) ?_
        refine lv_bipush (v := 24) hx hb dX3_readHead_38 (by decide) ?_
        obtain ⟨v15, M16, e17, hf⟩ := cl_b2_e hf
        refine cr_Vi C hw (c_X3_readNumber hlt ht0 e17) cy_X3_readNumber vy_X3_readNumber ml_X3_60 (cl_lt ht0 (by decide)) (cl_e3 ht0) rfl rfl (As := [.int 2, .int 0, .int 24]) rfl hl.1 rfl ⟨⟨Nat.le_of_ble_eq_true rfl, Nat.le_of_ble_eq_true rfl⟩, Nat.le_of_ble_eq_true rfl, Nat.le_of_ble_eq_true rfl, Nat.le_of_ble_eq_true rfl⟩ dX3_readHead_40 (fun H locs hw => ?_)
        refine lv_if_eq (tgt := 53) hx hb dX3_readHead_43 (by decide) (fun c18 => ?_) (fun c18 => ?_)
        · have hf := cl_yes c18 hf
          refine lv_iconst (v := 0) hx hb dX3_readHead_53 (by decide) ?_
          obtain ⟨rfl, rfl⟩ := cl_pair hf
          exact cr_retz C hw (by decide) dX3_readHead_54
        · have hf := cl_no c18 hf
          refine lv_aload_n hx hb dX3_readHead_46 rfl (lv_at hl 0 rfl) ?_
          obtain ⟨v19, M20, e21, hf⟩ := cl_b2_e hf
          refine cr_Vi C hw (c_X3_readSemicolon hlt ht0 e21) cy_X3_readSemicolon vy_X3_readSemicolon ml_X3_64 (cl_lt ht0 (by decide)) (cl_e3 ht0) rfl rfl (As := []) rfl hl.1 rfl ⟨⟨Nat.le_of_ble_eq_true rfl, Nat.le_of_ble_eq_true rfl⟩, Nat.le_of_ble_eq_true rfl, Nat.le_of_ble_eq_true rfl, Nat.le_of_ble_eq_true rfl⟩ dX3_readHead_47 (fun H locs hw => ?_)
          refine lv_if_ne (tgt := 55) hx hb dX3_readHead_50 (by decide) (fun c22 => ?_) (fun c22 => ?_)
          · have hf := cl_no c22 hf
            refine lv_aload_n hx hb dX3_readHead_55 rfl (lv_at hl 1 rfl) ?_
            refine lv_aload_n hx hb dX3_readHead_56 rfl (lv_at hl 0 rfl) ?_
            refine fg_X3_15 C hw ht0 dX3_readHead_57 ?_
            refine lv_iconst (v := 0) hx hb dX3_readHead_60 (by decide) ?_
            refine cr_iald C hw (sh_3_7 ht0).1 (sh_3_7 ht0).2 (by decide) (k := 0) rfl dX3_readHead_61 ?_
            refine lv_aload_n hx hb dX3_readHead_62 rfl (lv_at hl 0 rfl) ?_
            refine fg_X3_15 C hw ht0 dX3_readHead_63 ?_
            refine lv_iconst (v := 1) hx hb dX3_readHead_66 (by decide) ?_
            refine cr_iald C hw (sh_3_7 ht0).1 (sh_3_7 ht0).2 (by decide) (k := 1) rfl dX3_readHead_67 ?_
            refine lv_aload_n hx hb dX3_readHead_68 rfl (lv_at hl 0 rfl) ?_
            refine fg_X3_15 C hw ht0 dX3_readHead_69 ?_
            refine lv_iconst (v := 2) hx hb dX3_readHead_72 (by decide) ?_
            refine cr_iald C hw (sh_3_7 ht0).1 (sh_3_7 ht0).2 (by decide) (k := 2) rfl dX3_readHead_73 ?_
            obtain ⟨M23, e24, hf⟩ := cl_bind_e hf
            refine cr_Vv C hw (c_X2_clear hlt ht1 e24) cy_X2_clear vy_X2_clear ml_X3_68 (cl_lt ht1 (by decide)) (cl_e2 ht1) rfl rfl (As := [.int (M20 (t0 + 2) 0), .int (M20 (t0 + 2) 1), .int (M20 (t0 + 2) 2)]) rfl hl.1 rfl ⟨⟨Nat.le_of_ble_eq_true rfl, Nat.le_of_ble_eq_true rfl⟩, Nat.le_of_ble_eq_true rfl, Nat.le_of_ble_eq_true rfl, Nat.le_of_ble_eq_true rfl⟩ dX3_readHead_74 (fun H locs hw => ?_)
            refine lv_aload_n hx hb dX3_readHead_77 rfl (lv_at hl 0 rfl) ?_
            refine va_ldcS hx hb C.2.2.2.1 (sr_1 hRr) dX3_readHead_78 ?_
            obtain ⟨v25, M26, e27, hf⟩ := cl_b2_e hf
            refine cr_Vi C hw (c_X3_readWord hlt ht0 (by decide) e27) cy_X3_readWord vy_X3_readWord ml_X3_56 (cl_lt ht0 (by decide)) (cl_e3 ht0) rfl rfl (As := [.ref (dd.2.2.1 1)]) rfl hl.1 rfl ⟨⟨Nat.le_of_ble_eq_true rfl, Nat.le_of_ble_eq_true rfl⟩, Nat.le_of_ble_eq_true rfl, Nat.le_of_ble_eq_true rfl, Nat.le_of_ble_eq_true rfl⟩ dX3_readHead_80 (fun H locs hw => ?_)
            refine lv_if_eq (tgt := 101) hx hb dX3_readHead_83 (by decide) (fun c28 => ?_) (fun c28 => ?_)
            · have hf := cl_yes c28 hf
              refine lv_iconst (v := 0) hx hb dX3_readHead_101 (by decide) ?_
              exact k_X3_readHead_102 C M26 0 _ _ hf _ _ _ hw (lv_sub hl [] rfl)
            · have hf := cl_no c28 hf
              refine lv_aload_n hx hb dX3_readHead_86 rfl (lv_at hl 0 rfl) ?_
              refine lv_aload_n hx hb dX3_readHead_87 rfl (lv_at hl 1 rfl) ?_
              refine fg_X3_76 C hw ht1 dX3_readHead_88 ?_
              obtain ⟨v30, M31, e32, hf⟩ := cl_b2_e hf
              refine cr_Vi C hw (c_X3_readPattern hlt ht0 (sh_2_4 ht1).1 e32) cy_X3_readPattern vy_X3_readPattern ml_X3_80 (cl_lt ht0 (by decide)) (cl_e3 ht0) rfl rfl (As := [.ref (b + (t1 + 1))]) rfl hl.1 rfl ⟨⟨Nat.le_of_ble_eq_true rfl, Nat.le_of_ble_eq_true rfl⟩, Nat.le_of_ble_eq_true rfl, Nat.le_of_ble_eq_true rfl, Nat.le_of_ble_eq_true rfl⟩ dX3_readHead_91 (fun H locs hw => ?_)
              refine lv_if_eq (tgt := 101) hx hb dX3_readHead_94 (by decide) (fun c33 => ?_) (fun c33 => ?_)
              · have hf := cl_yes c33 hf
                refine lv_iconst (v := 0) hx hb dX3_readHead_101 (by decide) ?_
                exact k_X3_readHead_102 C M31 0 _ _ hf _ _ _ hw (lv_sub hl [] rfl)
              · have hf := cl_no c33 hf
                refine lv_iconst (v := 1) hx hb dX3_readHead_97 (by decide) ?_
                refine lv_goto (tgt := 102) hx hb dX3_readHead_98 (by decide) ?_
                exact k_X3_readHead_102 C M31 1 _ _ hf _ _ _ hw (lv_sub hl [] rfl)
          · have hf := cl_yes c22 hf
            refine lv_iconst (v := 0) hx hb dX3_readHead_53 (by decide) ?_
            obtain ⟨rfl, rfl⟩ := cl_pair hf
            exact cr_retz C hw (by decide) dX3_readHead_54
set_option maxRecDepth 100000 in
theorem c_X3_readHead {l : Launch} {dd : cl_D} {b : Nat} (hlt : l.stackTraces = false) {M : cl_M} {t0 : Nat} {t1 : Nat}  {r : Int32} {M' : cl_M} (ht0 : cl_sh dd t0 = 3) (ht1 : cl_sh dd t1 = 2) (h : f_X3_readHead M t0 t1 = some (r, M')) : cl_Mi l dd b yX3_readHead cX3_readHead 2 (some .boolean) 6 128 [.ref (b + t0), .ref (b + t1)] M r M' :=
  cl_of hlt (by decide) (Nat.le_of_ble_eq_true rfl) (fun p e s m below meth c ls C hw hl => k_X3_readHead C M t0 t1 r M' h _ _ _ ht0 ht1 hw (lv_sub hl [0, 1] rfl))
theorem cy_X3_readHead : cl_cy yX3_readHead cX3_readHead 2 (some .boolean) 1 := ⟨in_ClothesLine_TextReader, cd_X3_readHead, by decide +kernel, by decide +kernel, by decide +kernel⟩
theorem vy_X3_readHead : cl_vy yX3_readHead := ⟨im_X3_readHead, se_X3_readHead⟩
def f_X3_commandOfToken_118 (M : cl_M) (z0 : Int32) : Option (Int32) := some z0
set_option maxHeartbeats 4000000 in
set_option maxRecDepth 100000 in
theorem k_X3_commandOfToken_118 {p : Program} {l : Launch} {e : Env} {s : State} {m : MethodId} {args : Array Value} {below : List Frame} {meth : Method} {c : Code} {dd : cl_D} {b : Nat} (C : cl_C p l s m args meth c cX3_commandOfToken RX3 1 (some .int) dd b) : ∀ (M : cl_M) (z0 : Int32) (r : Int32), f_X3_commandOfToken_118 M z0 = some r → ∀ (H : Heap) (locs : List Loc) (ls : Array Slot), cl_H dd b M s H locs → lv_has ls 1 [] → W p l e { frames := 5, cells := 0, slots := 0, locals := 107 } s m args below meth c H locs 0 0 (cl_Zi below args s dd b r M) (F0 m 118 ls [.int z0]) := by
  have hx := C.1
  have hb := C.2.1
  have hlt := C.2.2.2.2.2.2.2.2.2.2
  have hRr := C.2.2.2.2.2.2.2.2.2.1
  intro M z0 r hf H locs ls hw hl
  unfold f_X3_commandOfToken_118 at hf
  obtain rfl := Option.some.inj hf
  exact cr_reti C hw dX3_commandOfToken_118
def f_X3_commandOfToken (M : cl_M) (t0 : Nat) : Option (Int32) := (f_X3_tokenIs M t0 2).bind (fun v1 => if v1 = 0 then (f_X3_tokenIs M t0 3).bind (fun v4 => if v4 = 0 then (f_X3_tokenIs M t0 4).bind (fun v7 => if v7 = 0 then (f_X3_tokenIs M t0 5).bind (fun v10 => if v10 = 0 then (f_X3_tokenIs M t0 6).bind (fun v13 => if v13 = 0 then (f_X3_tokenIs M t0 7).bind (fun v16 => if v16 = 0 then (f_X3_tokenIs M t0 8).bind (fun v19 => if v19 = 0 then (f_X3_tokenIs M t0 9).bind (fun v22 => if v22 = 0 then (f_X3_tokenIs M t0 1).bind (fun v25 => if v25 = 0 then (f_X3_tokenIs M t0 10).bind (fun v28 => if v28 = 0 then f_X3_commandOfToken_118 M 0 else f_X3_commandOfToken_118 M 10) else some 9) else some 8) else some 7) else some 6) else some 5) else some 4) else some 3) else some 2) else some 1)
set_option maxHeartbeats 4000000 in
set_option maxRecDepth 100000 in
theorem k_X3_commandOfToken {p : Program} {l : Launch} {e : Env} {s : State} {m : MethodId} {args : Array Value} {below : List Frame} {meth : Method} {c : Code} {dd : cl_D} {b : Nat} (C : cl_C p l s m args meth c cX3_commandOfToken RX3 1 (some .int) dd b) : ∀ (M : cl_M) (t0 : Nat) (r : Int32), f_X3_commandOfToken M t0 = some r → ∀ (H : Heap) (locs : List Loc) (ls : Array Slot), cl_sh dd t0 = 3 → cl_H dd b M s H locs → lv_has ls 1 [(0, .ref (b + t0))] → W p l e { frames := 5, cells := 0, slots := 0, locals := 107 } s m args below meth c H locs 0 0 (cl_Zi below args s dd b r M) (F0 m 0 ls []) := by
  have hx := C.1
  have hb := C.2.1
  have hlt := C.2.2.2.2.2.2.2.2.2.2
  have hRr := C.2.2.2.2.2.2.2.2.2.1
  intro M t0 r hf H locs ls ht0 hw hl
  unfold f_X3_commandOfToken at hf
  refine lv_aload_n hx hb dX3_commandOfToken_0 rfl (lv_at hl 0 rfl) ?_
  refine va_ldcS hx hb C.2.2.2.1 (sr_2 hRr) dX3_commandOfToken_1 ?_
  obtain ⟨v1, e2, hf⟩ := cl_bind_e hf
  refine cr_Vi C hw (c_X3_tokenIs hlt ht0 (by decide) e2) cy_X3_tokenIs vy_X3_tokenIs ml_X3_130 (cl_lt ht0 (by decide)) (cl_e3 ht0) rfl rfl (As := [.ref (dd.2.2.1 2)]) rfl hl.1 rfl ⟨⟨Nat.le_of_ble_eq_true rfl, Nat.le_of_ble_eq_true rfl⟩, Nat.le_of_ble_eq_true rfl, Nat.le_of_ble_eq_true rfl, Nat.le_of_ble_eq_true rfl⟩ dX3_commandOfToken_3 (fun H locs hw => ?_)
  refine lv_if_eq (tgt := 11) hx hb dX3_commandOfToken_6 (by decide) (fun c3 => ?_) (fun c3 => ?_)
  · have hf := cl_yes c3 hf
    refine lv_aload_n hx hb dX3_commandOfToken_11 rfl (lv_at hl 0 rfl) ?_
    refine va_ldcS hx hb C.2.2.2.1 (sr_3 hRr) dX3_commandOfToken_12 ?_
    obtain ⟨v4, e5, hf⟩ := cl_bind_e hf
    refine cr_Vi C hw (c_X3_tokenIs hlt ht0 (by decide) e5) cy_X3_tokenIs vy_X3_tokenIs ml_X3_130 (cl_lt ht0 (by decide)) (cl_e3 ht0) rfl rfl (As := [.ref (dd.2.2.1 3)]) rfl hl.1 rfl ⟨⟨Nat.le_of_ble_eq_true rfl, Nat.le_of_ble_eq_true rfl⟩, Nat.le_of_ble_eq_true rfl, Nat.le_of_ble_eq_true rfl, Nat.le_of_ble_eq_true rfl⟩ dX3_commandOfToken_14 (fun H locs hw => ?_)
    refine lv_if_eq (tgt := 22) hx hb dX3_commandOfToken_17 (by decide) (fun c6 => ?_) (fun c6 => ?_)
    · have hf := cl_yes c6 hf
      refine lv_aload_n hx hb dX3_commandOfToken_22 rfl (lv_at hl 0 rfl) ?_
      refine va_ldcS hx hb C.2.2.2.1 (sr_4 hRr) dX3_commandOfToken_23 ?_
      obtain ⟨v7, e8, hf⟩ := cl_bind_e hf
      refine cr_Vi C hw (c_X3_tokenIs hlt ht0 (by decide) e8) cy_X3_tokenIs vy_X3_tokenIs ml_X3_130 (cl_lt ht0 (by decide)) (cl_e3 ht0) rfl rfl (As := [.ref (dd.2.2.1 4)]) rfl hl.1 rfl ⟨⟨Nat.le_of_ble_eq_true rfl, Nat.le_of_ble_eq_true rfl⟩, Nat.le_of_ble_eq_true rfl, Nat.le_of_ble_eq_true rfl, Nat.le_of_ble_eq_true rfl⟩ dX3_commandOfToken_25 (fun H locs hw => ?_)
      refine lv_if_eq (tgt := 33) hx hb dX3_commandOfToken_28 (by decide) (fun c9 => ?_) (fun c9 => ?_)
      · have hf := cl_yes c9 hf
        refine lv_aload_n hx hb dX3_commandOfToken_33 rfl (lv_at hl 0 rfl) ?_
        refine va_ldcS hx hb C.2.2.2.1 (sr_5 hRr) dX3_commandOfToken_34 ?_
        obtain ⟨v10, e11, hf⟩ := cl_bind_e hf
        refine cr_Vi C hw (c_X3_tokenIs hlt ht0 (by decide) e11) cy_X3_tokenIs vy_X3_tokenIs ml_X3_130 (cl_lt ht0 (by decide)) (cl_e3 ht0) rfl rfl (As := [.ref (dd.2.2.1 5)]) rfl hl.1 rfl ⟨⟨Nat.le_of_ble_eq_true rfl, Nat.le_of_ble_eq_true rfl⟩, Nat.le_of_ble_eq_true rfl, Nat.le_of_ble_eq_true rfl, Nat.le_of_ble_eq_true rfl⟩ dX3_commandOfToken_36 (fun H locs hw => ?_)
        refine lv_if_eq (tgt := 44) hx hb dX3_commandOfToken_39 (by decide) (fun c12 => ?_) (fun c12 => ?_)
        · have hf := cl_yes c12 hf
          refine lv_aload_n hx hb dX3_commandOfToken_44 rfl (lv_at hl 0 rfl) ?_
          refine va_ldcS hx hb C.2.2.2.1 (sr_6 hRr) dX3_commandOfToken_45 ?_
          obtain ⟨v13, e14, hf⟩ := cl_bind_e hf
          refine cr_Vi C hw (c_X3_tokenIs hlt ht0 (by decide) e14) cy_X3_tokenIs vy_X3_tokenIs ml_X3_130 (cl_lt ht0 (by decide)) (cl_e3 ht0) rfl rfl (As := [.ref (dd.2.2.1 6)]) rfl hl.1 rfl ⟨⟨Nat.le_of_ble_eq_true rfl, Nat.le_of_ble_eq_true rfl⟩, Nat.le_of_ble_eq_true rfl, Nat.le_of_ble_eq_true rfl, Nat.le_of_ble_eq_true rfl⟩ dX3_commandOfToken_47 (fun H locs hw => ?_)
          refine lv_if_eq (tgt := 55) hx hb dX3_commandOfToken_50 (by decide) (fun c15 => ?_) (fun c15 => ?_)
          · have hf := cl_yes c15 hf
            refine lv_aload_n hx hb dX3_commandOfToken_55 rfl (lv_at hl 0 rfl) ?_
            refine va_ldcS hx hb C.2.2.2.1 (sr_7 hRr) dX3_commandOfToken_56 ?_
            obtain ⟨v16, e17, hf⟩ := cl_bind_e hf
            refine cr_Vi C hw (c_X3_tokenIs hlt ht0 (by decide) e17) cy_X3_tokenIs vy_X3_tokenIs ml_X3_130 (cl_lt ht0 (by decide)) (cl_e3 ht0) rfl rfl (As := [.ref (dd.2.2.1 7)]) rfl hl.1 rfl ⟨⟨Nat.le_of_ble_eq_true rfl, Nat.le_of_ble_eq_true rfl⟩, Nat.le_of_ble_eq_true rfl, Nat.le_of_ble_eq_true rfl, Nat.le_of_ble_eq_true rfl⟩ dX3_commandOfToken_58 (fun H locs hw => ?_)
            refine lv_if_eq (tgt := 67) hx hb dX3_commandOfToken_61 (by decide) (fun c18 => ?_) (fun c18 => ?_)
            · have hf := cl_yes c18 hf
              refine lv_aload_n hx hb dX3_commandOfToken_67 rfl (lv_at hl 0 rfl) ?_
              refine va_ldcS hx hb C.2.2.2.1 (sr_8 hRr) dX3_commandOfToken_68 ?_
              obtain ⟨v19, e20, hf⟩ := cl_bind_e hf
              refine cr_Vi C hw (c_X3_tokenIs hlt ht0 (by decide) e20) cy_X3_tokenIs vy_X3_tokenIs ml_X3_130 (cl_lt ht0 (by decide)) (cl_e3 ht0) rfl rfl (As := [.ref (dd.2.2.1 8)]) rfl hl.1 rfl ⟨⟨Nat.le_of_ble_eq_true rfl, Nat.le_of_ble_eq_true rfl⟩, Nat.le_of_ble_eq_true rfl, Nat.le_of_ble_eq_true rfl, Nat.le_of_ble_eq_true rfl⟩ dX3_commandOfToken_70 (fun H locs hw => ?_)
              refine lv_if_eq (tgt := 79) hx hb dX3_commandOfToken_73 (by decide) (fun c21 => ?_) (fun c21 => ?_)
              · have hf := cl_yes c21 hf
                refine lv_aload_n hx hb dX3_commandOfToken_79 rfl (lv_at hl 0 rfl) ?_
                refine va_ldcS hx hb C.2.2.2.1 (sr_9 hRr) dX3_commandOfToken_80 ?_
                obtain ⟨v22, e23, hf⟩ := cl_bind_e hf
                refine cr_Vi C hw (c_X3_tokenIs hlt ht0 (by decide) e23) cy_X3_tokenIs vy_X3_tokenIs ml_X3_130 (cl_lt ht0 (by decide)) (cl_e3 ht0) rfl rfl (As := [.ref (dd.2.2.1 9)]) rfl hl.1 rfl ⟨⟨Nat.le_of_ble_eq_true rfl, Nat.le_of_ble_eq_true rfl⟩, Nat.le_of_ble_eq_true rfl, Nat.le_of_ble_eq_true rfl, Nat.le_of_ble_eq_true rfl⟩ dX3_commandOfToken_82 (fun H locs hw => ?_)
                refine lv_if_eq (tgt := 91) hx hb dX3_commandOfToken_85 (by decide) (fun c24 => ?_) (fun c24 => ?_)
                · have hf := cl_yes c24 hf
                  refine lv_aload_n hx hb dX3_commandOfToken_91 rfl (lv_at hl 0 rfl) ?_
                  refine va_ldcS hx hb C.2.2.2.1 (sr_1 hRr) dX3_commandOfToken_92 ?_
                  obtain ⟨v25, e26, hf⟩ := cl_bind_e hf
                  refine cr_Vi C hw (c_X3_tokenIs hlt ht0 (by decide) e26) cy_X3_tokenIs vy_X3_tokenIs ml_X3_130 (cl_lt ht0 (by decide)) (cl_e3 ht0) rfl rfl (As := [.ref (dd.2.2.1 1)]) rfl hl.1 rfl ⟨⟨Nat.le_of_ble_eq_true rfl, Nat.le_of_ble_eq_true rfl⟩, Nat.le_of_ble_eq_true rfl, Nat.le_of_ble_eq_true rfl, Nat.le_of_ble_eq_true rfl⟩ dX3_commandOfToken_94 (fun H locs hw => ?_)
                  refine lv_if_eq (tgt := 103) hx hb dX3_commandOfToken_97 (by decide) (fun c27 => ?_) (fun c27 => ?_)
                  · have hf := cl_yes c27 hf
                    refine lv_aload_n hx hb dX3_commandOfToken_103 rfl (lv_at hl 0 rfl) ?_
                    refine va_ldcS hx hb C.2.2.2.1 (sr_10 hRr) dX3_commandOfToken_104 ?_
                    obtain ⟨v28, e29, hf⟩ := cl_bind_e hf
                    refine cr_Vi C hw (c_X3_tokenIs hlt ht0 (by decide) e29) cy_X3_tokenIs vy_X3_tokenIs ml_X3_130 (cl_lt ht0 (by decide)) (cl_e3 ht0) rfl rfl (As := [.ref (dd.2.2.1 10)]) rfl hl.1 rfl ⟨⟨Nat.le_of_ble_eq_true rfl, Nat.le_of_ble_eq_true rfl⟩, Nat.le_of_ble_eq_true rfl, Nat.le_of_ble_eq_true rfl, Nat.le_of_ble_eq_true rfl⟩ dX3_commandOfToken_106 (fun H locs hw => ?_)
                    refine lv_if_eq (tgt := 117) hx hb dX3_commandOfToken_109 (by decide) (fun c30 => ?_) (fun c30 => ?_)
                    · have hf := cl_yes c30 hf
                      refine lv_iconst (v := 0) hx hb dX3_commandOfToken_117 (by decide) ?_
                      exact k_X3_commandOfToken_118 C M 0 _ hf _ _ _ hw (lv_sub hl [] rfl)
                    · have hf := cl_no c30 hf
                      refine lv_bipush (v := 10) hx hb dX3_commandOfToken_112 (by decide) ?_
                      refine lv_goto (tgt := 118) hx hb dX3_commandOfToken_114 (by decide) ?_
                      exact k_X3_commandOfToken_118 C M 10 _ hf _ _ _ hw (lv_sub hl [] rfl)
                  · have hf := cl_no c27 hf
                    refine lv_bipush (v := 9) hx hb dX3_commandOfToken_100 (by decide) ?_
                    obtain rfl := Option.some.inj hf
                    exact cr_reti C hw dX3_commandOfToken_102
                · have hf := cl_no c24 hf
                  refine lv_bipush (v := 8) hx hb dX3_commandOfToken_88 (by decide) ?_
                  obtain rfl := Option.some.inj hf
                  exact cr_reti C hw dX3_commandOfToken_90
              · have hf := cl_no c21 hf
                refine lv_bipush (v := 7) hx hb dX3_commandOfToken_76 (by decide) ?_
                obtain rfl := Option.some.inj hf
                exact cr_reti C hw dX3_commandOfToken_78
            · have hf := cl_no c18 hf
              refine lv_bipush (v := 6) hx hb dX3_commandOfToken_64 (by decide) ?_
              obtain rfl := Option.some.inj hf
              exact cr_reti C hw dX3_commandOfToken_66
          · have hf := cl_no c15 hf
            refine lv_iconst (v := 5) hx hb dX3_commandOfToken_53 (by decide) ?_
            obtain rfl := Option.some.inj hf
            exact cr_reti C hw dX3_commandOfToken_54
        · have hf := cl_no c12 hf
          refine lv_iconst (v := 4) hx hb dX3_commandOfToken_42 (by decide) ?_
          obtain rfl := Option.some.inj hf
          exact cr_reti C hw dX3_commandOfToken_43
      · have hf := cl_no c9 hf
        refine lv_iconst (v := 3) hx hb dX3_commandOfToken_31 (by decide) ?_
        obtain rfl := Option.some.inj hf
        exact cr_reti C hw dX3_commandOfToken_32
    · have hf := cl_no c6 hf
      refine lv_iconst (v := 2) hx hb dX3_commandOfToken_20 (by decide) ?_
      obtain rfl := Option.some.inj hf
      exact cr_reti C hw dX3_commandOfToken_21
  · have hf := cl_no c3 hf
    refine lv_iconst (v := 1) hx hb dX3_commandOfToken_9 (by decide) ?_
    obtain rfl := Option.some.inj hf
    exact cr_reti C hw dX3_commandOfToken_10
set_option maxRecDepth 100000 in
theorem c_X3_commandOfToken {l : Launch} {dd : cl_D} {b : Nat} (hlt : l.stackTraces = false) {M : cl_M} {t0 : Nat}  {r : Int32} (ht0 : cl_sh dd t0 = 3) (h : f_X3_commandOfToken M t0 = some r) : cl_Mi l dd b yX3_commandOfToken cX3_commandOfToken 1 (some .int) 5 107 [.ref (b + t0)] M r M :=
  cl_of hlt (by decide) (Nat.le_of_ble_eq_true rfl) (fun p e s m below meth c ls C hw hl => k_X3_commandOfToken C M t0 r h _ _ _ ht0 hw (lv_sub hl [0] rfl))
theorem cy_X3_commandOfToken : cl_cy yX3_commandOfToken cX3_commandOfToken 1 (some .int) 0 := ⟨in_ClothesLine_TextReader, cd_X3_commandOfToken, by decide +kernel, by decide +kernel, by decide +kernel⟩
theorem vy_X3_commandOfToken : cl_vy yX3_commandOfToken := ⟨im_X3_commandOfToken, se_X3_commandOfToken⟩
def f_X3_hasNoPlace_54 (M : cl_M) (z0 : Int32) : Option (Int32) := if cl_bz z0 = true then some z0 else none
set_option maxHeartbeats 4000000 in
set_option maxRecDepth 100000 in
theorem k_X3_hasNoPlace_54 {p : Program} {l : Launch} {e : Env} {s : State} {m : MethodId} {args : Array Value} {below : List Frame} {meth : Method} {c : Code} {dd : cl_D} {b : Nat} (C : cl_C p l s m args meth c cX3_hasNoPlace RX3 2 (some .boolean) dd b) : ∀ (M : cl_M) (z0 : Int32) (r : Int32), f_X3_hasNoPlace_54 M z0 = some r → ∀ (H : Heap) (locs : List Loc) (ls : Array Slot), cl_H dd b M s H locs → lv_has ls 2 [] → W p l e { frames := 0, cells := 0, slots := 0, locals := 0 } s m args below meth c H locs 0 0 (cl_Zi below args s dd b r M) (F0 m 54 ls [.int z0]) := by
  have hx := C.1
  have hb := C.2.1
  have hlt := C.2.2.2.2.2.2.2.2.2.2
  have hRr := C.2.2.2.2.2.2.2.2.2.1
  intro M z0 r hf H locs ls hw hl
  unfold f_X3_hasNoPlace_54 at hf
  obtain ⟨q3, hf⟩ := cl_grd hf
  obtain rfl := Option.some.inj hf
  exact cr_retz C hw q3 dX3_hasNoPlace_54
def f_X3_hasNoPlace_71 (M : cl_M) (z0 : Int32) : Option (Int32) := if cl_bz z0 = true then some z0 else none
set_option maxHeartbeats 4000000 in
set_option maxRecDepth 100000 in
theorem k_X3_hasNoPlace_71 {p : Program} {l : Launch} {e : Env} {s : State} {m : MethodId} {args : Array Value} {below : List Frame} {meth : Method} {c : Code} {dd : cl_D} {b : Nat} (C : cl_C p l s m args meth c cX3_hasNoPlace RX3 2 (some .boolean) dd b) : ∀ (M : cl_M) (z0 : Int32) (r : Int32), f_X3_hasNoPlace_71 M z0 = some r → ∀ (H : Heap) (locs : List Loc) (ls : Array Slot), cl_H dd b M s H locs → lv_has ls 2 [] → W p l e { frames := 0, cells := 0, slots := 0, locals := 0 } s m args below meth c H locs 0 0 (cl_Zi below args s dd b r M) (F0 m 71 ls [.int z0]) := by
  have hx := C.1
  have hb := C.2.1
  have hlt := C.2.2.2.2.2.2.2.2.2.2
  have hRr := C.2.2.2.2.2.2.2.2.2.1
  intro M z0 r hf H locs ls hw hl
  unfold f_X3_hasNoPlace_71 at hf
  obtain ⟨q6, hf⟩ := cl_grd hf
  obtain rfl := Option.some.inj hf
  exact cr_retz C hw q6 dX3_hasNoPlace_71
def f_X3_hasNoPlace_88 (M : cl_M) (z0 : Int32) : Option (Int32) := if cl_bz z0 = true then some z0 else none
set_option maxHeartbeats 4000000 in
set_option maxRecDepth 100000 in
theorem k_X3_hasNoPlace_88 {p : Program} {l : Launch} {e : Env} {s : State} {m : MethodId} {args : Array Value} {below : List Frame} {meth : Method} {c : Code} {dd : cl_D} {b : Nat} (C : cl_C p l s m args meth c cX3_hasNoPlace RX3 2 (some .boolean) dd b) : ∀ (M : cl_M) (z0 : Int32) (r : Int32), f_X3_hasNoPlace_88 M z0 = some r → ∀ (H : Heap) (locs : List Loc) (ls : Array Slot), cl_H dd b M s H locs → lv_has ls 2 [] → W p l e { frames := 0, cells := 0, slots := 0, locals := 0 } s m args below meth c H locs 0 0 (cl_Zi below args s dd b r M) (F0 m 88 ls [.int z0]) := by
  have hx := C.1
  have hb := C.2.1
  have hlt := C.2.2.2.2.2.2.2.2.2.2
  have hRr := C.2.2.2.2.2.2.2.2.2.1
  intro M z0 r hf H locs ls hw hl
  unfold f_X3_hasNoPlace_88 at hf
  obtain ⟨q9, hf⟩ := cl_grd hf
  obtain rfl := Option.some.inj hf
  exact cr_retz C hw q9 dX3_hasNoPlace_88
def f_X3_hasNoPlace (M : cl_M) (t0 : Nat) (t1 : Nat) : Option (Int32) := if (M t0 6) = 1 then if (M t1 3) = 10 then f_X3_hasNoPlace_54 M 1 else f_X3_hasNoPlace_54 M 0 else if (M t0 6) = 7 then if (M (t1 + 1) 6) = 4 then f_X3_hasNoPlace_71 M 1 else f_X3_hasNoPlace_71 M 0 else if (M t0 6) = 8 then if (M (t1 + 1) 9) = 4 then f_X3_hasNoPlace_88 M 1 else f_X3_hasNoPlace_88 M 0 else some 0
set_option maxHeartbeats 4000000 in
set_option maxRecDepth 100000 in
theorem k_X3_hasNoPlace {p : Program} {l : Launch} {e : Env} {s : State} {m : MethodId} {args : Array Value} {below : List Frame} {meth : Method} {c : Code} {dd : cl_D} {b : Nat} (C : cl_C p l s m args meth c cX3_hasNoPlace RX3 2 (some .boolean) dd b) : ∀ (M : cl_M) (t0 : Nat) (t1 : Nat) (r : Int32), f_X3_hasNoPlace M t0 t1 = some r → ∀ (H : Heap) (locs : List Loc) (ls : Array Slot), cl_sh dd t0 = 3 → cl_sh dd t1 = 2 → cl_H dd b M s H locs → lv_has ls 2 [(0, .ref (b + t0)), (1, .ref (b + t1))] → W p l e { frames := 0, cells := 0, slots := 0, locals := 0 } s m args below meth c H locs 0 0 (cl_Zi below args s dd b r M) (F0 m 0 ls []) := by
  have hx := C.1
  have hb := C.2.1
  have hlt := C.2.2.2.2.2.2.2.2.2.2
  have hRr := C.2.2.2.2.2.2.2.2.2.1
  intro M t0 t1 r hf H locs ls ht0 ht1 hw hl
  unfold f_X3_hasNoPlace at hf
  refine lv_aload_n hx hb dX3_hasNoPlace_0 rfl (lv_at hl 0 rfl) ?_
  refine fg_X3_141 C hw ht0 dX3_hasNoPlace_1 ?_
  by_cases c1 : (M t0 6) = 1
  · have hf := cl_yes c1 hf
    refine lv_lookup (tgt := 40) (off := 36) hx hb dX3_hasNoPlace_4 (by decide) (by rw [c1]; rfl) (by decide) ?_
    refine lv_aload_n hx hb dX3_hasNoPlace_40 rfl (lv_at hl 1 rfl) ?_
    refine fg_X3_165 C hw ht1 dX3_hasNoPlace_41 ?_
    refine lv_bipush (v := 10) hx hb dX3_hasNoPlace_44 (by decide) ?_
    refine lv_icmp_ne (tgt := 53) hx hb dX3_hasNoPlace_46 (by decide) (fun c2 => ?_) (fun c2 => ?_)
    · have hf := cl_no c2 hf
      refine lv_iconst (v := 0) hx hb dX3_hasNoPlace_53 (by decide) ?_
      exact k_X3_hasNoPlace_54 C M 0 _ hf _ _ _ hw (lv_sub hl [] rfl)
    · have hf := cl_yes c2 hf
      refine lv_iconst (v := 1) hx hb dX3_hasNoPlace_49 (by decide) ?_
      refine lv_goto (tgt := 54) hx hb dX3_hasNoPlace_50 (by decide) ?_
      exact k_X3_hasNoPlace_54 C M 1 _ hf _ _ _ hw (lv_sub hl [] rfl)
  have hf := cl_no c1 hf
  by_cases c4 : (M t0 6) = 7
  · have hf := cl_yes c4 hf
    refine lv_lookup (tgt := 55) (off := 51) hx hb dX3_hasNoPlace_4 (by decide) (by rw [c4]; rfl) (by decide) ?_
    refine lv_aload_n hx hb dX3_hasNoPlace_55 rfl (lv_at hl 1 rfl) ?_
    refine fg_X3_76 C hw ht1 dX3_hasNoPlace_56 ?_
    refine fg_X3_168 C hw (sh_2_4 ht1).1 dX3_hasNoPlace_59 ?_
    refine lv_iconst (v := 4) hx hb dX3_hasNoPlace_62 (by decide) ?_
    refine lv_icmp_ne (tgt := 70) hx hb dX3_hasNoPlace_63 (by decide) (fun c5 => ?_) (fun c5 => ?_)
    · have hf := cl_no c5 hf
      refine lv_iconst (v := 0) hx hb dX3_hasNoPlace_70 (by decide) ?_
      exact k_X3_hasNoPlace_71 C M 0 _ hf _ _ _ hw (lv_sub hl [] rfl)
    · have hf := cl_yes c5 hf
      refine lv_iconst (v := 1) hx hb dX3_hasNoPlace_66 (by decide) ?_
      refine lv_goto (tgt := 71) hx hb dX3_hasNoPlace_67 (by decide) ?_
      exact k_X3_hasNoPlace_71 C M 1 _ hf _ _ _ hw (lv_sub hl [] rfl)
  have hf := cl_no c4 hf
  by_cases c7 : (M t0 6) = 8
  · have hf := cl_yes c7 hf
    refine lv_lookup (tgt := 72) (off := 68) hx hb dX3_hasNoPlace_4 (by decide) (by rw [c7]; rfl) (by decide) ?_
    refine lv_aload_n hx hb dX3_hasNoPlace_72 rfl (lv_at hl 1 rfl) ?_
    refine fg_X3_76 C hw ht1 dX3_hasNoPlace_73 ?_
    refine fg_X3_171 C hw (sh_2_4 ht1).1 dX3_hasNoPlace_76 ?_
    refine lv_iconst (v := 4) hx hb dX3_hasNoPlace_79 (by decide) ?_
    refine lv_icmp_ne (tgt := 87) hx hb dX3_hasNoPlace_80 (by decide) (fun c8 => ?_) (fun c8 => ?_)
    · have hf := cl_no c8 hf
      refine lv_iconst (v := 0) hx hb dX3_hasNoPlace_87 (by decide) ?_
      exact k_X3_hasNoPlace_88 C M 0 _ hf _ _ _ hw (lv_sub hl [] rfl)
    · have hf := cl_yes c8 hf
      refine lv_iconst (v := 1) hx hb dX3_hasNoPlace_83 (by decide) ?_
      refine lv_goto (tgt := 88) hx hb dX3_hasNoPlace_84 (by decide) ?_
      exact k_X3_hasNoPlace_88 C M 1 _ hf _ _ _ hw (lv_sub hl [] rfl)
  have hf := cl_no c7 hf
  refine lv_lookup (tgt := 89) (off := 85) hx hb dX3_hasNoPlace_4 (by decide) (by rw [lv_osw c1 (by decide), lv_osw c4 (by decide), lv_osw c7 (by decide)]; rfl) (by decide) ?_
  refine lv_iconst (v := 0) hx hb dX3_hasNoPlace_89 (by decide) ?_
  obtain rfl := Option.some.inj hf
  exact cr_retz C hw (by decide) dX3_hasNoPlace_90
set_option maxRecDepth 100000 in
theorem c_X3_hasNoPlace {l : Launch} {dd : cl_D} {b : Nat} (hlt : l.stackTraces = false) {M : cl_M} {t0 : Nat} {t1 : Nat}  {r : Int32} (ht0 : cl_sh dd t0 = 3) (ht1 : cl_sh dd t1 = 2) (h : f_X3_hasNoPlace M t0 t1 = some r) : cl_Mi l dd b yX3_hasNoPlace cX3_hasNoPlace 2 (some .boolean) 0 0 [.ref (b + t0), .ref (b + t1)] M r M :=
  cl_of hlt (by decide) (Nat.le_of_ble_eq_true rfl) (fun p e s m below meth c ls C hw hl => k_X3_hasNoPlace C M t0 t1 r h _ _ _ ht0 ht1 hw (lv_sub hl [0, 1] rfl))
theorem cy_X3_hasNoPlace : cl_cy yX3_hasNoPlace cX3_hasNoPlace 2 (some .boolean) 1 := ⟨in_ClothesLine_TextReader, cd_X3_hasNoPlace, by decide +kernel, by decide +kernel, by decide +kernel⟩
theorem vy_X3_hasNoPlace : cl_vy yX3_hasNoPlace := ⟨im_X3_hasNoPlace, se_X3_hasNoPlace⟩
def f_X3_isCommand_35 (M : cl_M) (t0 : Nat) : Option (Int32 × cl_M) := cl_b2 (f_X3_fail M t0 4) (fun v6 M7 => if cl_bz v6 = true then some (v6, M7) else none)
set_option maxHeartbeats 4000000 in
set_option maxRecDepth 100000 in
theorem k_X3_isCommand_35 {p : Program} {l : Launch} {e : Env} {s : State} {m : MethodId} {args : Array Value} {below : List Frame} {meth : Method} {c : Code} {dd : cl_D} {b : Nat} (C : cl_C p l s m args meth c cX3_isCommand RX3 3 (some .boolean) dd b) : ∀ (M : cl_M) (t0 : Nat) (r : Int32) (M' : cl_M), f_X3_isCommand_35 M t0 = some (r, M') → ∀ (H : Heap) (locs : List Loc) (ls : Array Slot), cl_sh dd t0 = 3 → cl_H dd b M s H locs → lv_has ls 3 [(0, .ref (b + t0))] → W p l e { frames := 6, cells := 0, slots := 0, locals := 127 } s m args below meth c H locs 0 0 (cl_Zi below args s dd b r M') (F0 m 35 ls []) := by
  have hx := C.1
  have hb := C.2.1
  have hlt := C.2.2.2.2.2.2.2.2.2.2
  have hRr := C.2.2.2.2.2.2.2.2.2.1
  intro M t0 r M' hf H locs ls ht0 hw hl
  unfold f_X3_isCommand_35 at hf
  refine lv_aload_n hx hb dX3_isCommand_35 rfl (lv_at hl 0 rfl) ?_
  refine lv_iconst (v := 4) hx hb dX3_isCommand_36 (by decide) ?_
  obtain ⟨v6, M7, e8, hf⟩ := cl_b2_e hf
  refine cr_Vi C hw (c_X3_fail hlt ht0 e8) cy_X3_fail vy_X3_fail ml_X3_101 (cl_lt ht0 (by decide)) (cl_e3 ht0) rfl rfl (As := [.int 4]) rfl hl.1 rfl ⟨⟨Nat.le_of_ble_eq_true rfl, Nat.le_of_ble_eq_true rfl⟩, Nat.le_of_ble_eq_true rfl, Nat.le_of_ble_eq_true rfl, Nat.le_of_ble_eq_true rfl⟩ dX3_isCommand_37 (fun H locs hw => ?_)
  obtain ⟨q9, hf⟩ := cl_grd hf
  obtain ⟨rfl, rfl⟩ := cl_pair hf
  exact cr_retz C hw q9 dX3_isCommand_40
def f_X3_isCommand (M : cl_M) (t0 : Nat) (t1 : Nat) (a2 : Int32) : Option (Int32 × cl_M) := (f_X3_commandOfToken M t0).bind (fun v1 => cl_let (cl_ms M t0 6 v1) (fun M3 => if (M3 t0 6) = 0 then cl_b2 (f_X3_fail M3 t0 1) (fun v13 M14 => if cl_bz v13 = true then some (v13, M14) else none) else if a2 = 40 then f_X3_isCommand_35 M3 t0 else (f_X3_hasNoPlace M3 t0 t1).bind (fun v10 => if v10 = 0 then some (1, M3) else f_X3_isCommand_35 M3 t0)))
set_option maxHeartbeats 4000000 in
set_option maxRecDepth 100000 in
theorem k_X3_isCommand {p : Program} {l : Launch} {e : Env} {s : State} {m : MethodId} {args : Array Value} {below : List Frame} {meth : Method} {c : Code} {dd : cl_D} {b : Nat} (C : cl_C p l s m args meth c cX3_isCommand RX3 3 (some .boolean) dd b) : ∀ (M : cl_M) (t0 : Nat) (t1 : Nat) (a2 : Int32) (r : Int32) (M' : cl_M), f_X3_isCommand M t0 t1 a2 = some (r, M') → ∀ (H : Heap) (locs : List Loc) (ls : Array Slot), cl_sh dd t0 = 3 → cl_sh dd t1 = 2 → cl_H dd b M s H locs → lv_has ls 3 [(0, .ref (b + t0)), (1, .ref (b + t1)), (2, .int a2)] → W p l e { frames := 6, cells := 0, slots := 0, locals := 127 } s m args below meth c H locs 0 0 (cl_Zi below args s dd b r M') (F0 m 0 ls []) := by
  have hx := C.1
  have hb := C.2.1
  have hlt := C.2.2.2.2.2.2.2.2.2.2
  have hRr := C.2.2.2.2.2.2.2.2.2.1
  intro M t0 t1 a2 r M' hf H locs ls ht0 ht1 hw hl
  unfold f_X3_isCommand at hf
  refine lv_aload_n hx hb dX3_isCommand_0 rfl (lv_at hl 0 rfl) ?_
  refine lv_aload_n hx hb dX3_isCommand_1 rfl (lv_at hl 0 rfl) ?_
  obtain ⟨v1, e2, hf⟩ := cl_bind_e hf
  refine cr_Vi C hw (c_X3_commandOfToken hlt ht0 e2) cy_X3_commandOfToken vy_X3_commandOfToken ml_X3_138 (cl_lt ht0 (by decide)) (cl_e3 ht0) rfl rfl (As := []) rfl hl.1 rfl ⟨⟨Nat.le_of_ble_eq_true rfl, Nat.le_of_ble_eq_true rfl⟩, Nat.le_of_ble_eq_true rfl, Nat.le_of_ble_eq_true rfl, Nat.le_of_ble_eq_true rfl⟩ dX3_isCommand_2 (fun H locs hw => ?_)
  obtain ⟨M3, eM3, hf⟩ := cl_let_e hf
  refine fp_X3_141 C hw ht0 eM3 dX3_isCommand_5 (fun H locs hw => ?_)
  refine lv_aload_n hx hb dX3_isCommand_8 rfl (lv_at hl 0 rfl) ?_
  refine fg_X3_141 C hw ht0 dX3_isCommand_9 ?_
  refine lv_if_ne (tgt := 21) hx hb dX3_isCommand_12 (by decide) (fun c4 => ?_) (fun c4 => ?_)
  · have hf := cl_no c4 hf
    refine lv_iload_n hx hb dX3_isCommand_21 rfl (lv_at hl 2 rfl) ?_
    refine lv_bipush (v := 40) hx hb dX3_isCommand_22 (by decide) ?_
    refine lv_icmp_eq (tgt := 35) hx hb dX3_isCommand_24 (by decide) (fun c5 => ?_) (fun c5 => ?_)
    · have hf := cl_yes c5 hf
      exact k_X3_isCommand_35 C M3 t0 _ _ hf _ _ _ ht0 hw (lv_sub hl [0] rfl)
    · have hf := cl_no c5 hf
      refine lv_aload_n hx hb dX3_isCommand_27 rfl (lv_at hl 0 rfl) ?_
      refine lv_aload_n hx hb dX3_isCommand_28 rfl (lv_at hl 1 rfl) ?_
      obtain ⟨v10, e11, hf⟩ := cl_bind_e hf
      refine cr_Vi C hw (c_X3_hasNoPlace hlt ht0 ht1 e11) cy_X3_hasNoPlace vy_X3_hasNoPlace ml_X3_144 (cl_lt ht0 (by decide)) (cl_e3 ht0) rfl rfl (As := [.ref (b + t1)]) rfl hl.1 rfl ⟨⟨Nat.le_of_ble_eq_true rfl, Nat.le_of_ble_eq_true rfl⟩, Nat.le_of_ble_eq_true rfl, Nat.le_of_ble_eq_true rfl, Nat.le_of_ble_eq_true rfl⟩ dX3_isCommand_29 (fun H locs hw => ?_)
      refine lv_if_eq (tgt := 41) hx hb dX3_isCommand_32 (by decide) (fun c12 => ?_) (fun c12 => ?_)
      · have hf := cl_yes c12 hf
        refine lv_iconst (v := 1) hx hb dX3_isCommand_41 (by decide) ?_
        obtain ⟨rfl, rfl⟩ := cl_pair hf
        exact cr_retz C hw (by decide) dX3_isCommand_42
      · have hf := cl_no c12 hf
        exact k_X3_isCommand_35 C M3 t0 _ _ hf _ _ _ ht0 hw (lv_sub hl [0] rfl)
  · have hf := cl_yes c4 hf
    refine lv_aload_n hx hb dX3_isCommand_15 rfl (lv_at hl 0 rfl) ?_
    refine lv_iconst (v := 1) hx hb dX3_isCommand_16 (by decide) ?_
    obtain ⟨v13, M14, e15, hf⟩ := cl_b2_e hf
    refine cr_Vi C hw (c_X3_fail hlt ht0 e15) cy_X3_fail vy_X3_fail ml_X3_101 (cl_lt ht0 (by decide)) (cl_e3 ht0) rfl rfl (As := [.int 1]) rfl hl.1 rfl ⟨⟨Nat.le_of_ble_eq_true rfl, Nat.le_of_ble_eq_true rfl⟩, Nat.le_of_ble_eq_true rfl, Nat.le_of_ble_eq_true rfl, Nat.le_of_ble_eq_true rfl⟩ dX3_isCommand_17 (fun H locs hw => ?_)
    obtain ⟨q16, hf⟩ := cl_grd hf
    obtain ⟨rfl, rfl⟩ := cl_pair hf
    exact cr_retz C hw q16 dX3_isCommand_20
set_option maxRecDepth 100000 in
theorem c_X3_isCommand {l : Launch} {dd : cl_D} {b : Nat} (hlt : l.stackTraces = false) {M : cl_M} {t0 : Nat} {t1 : Nat} {a2 : Int32}  {r : Int32} {M' : cl_M} (ht0 : cl_sh dd t0 = 3) (ht1 : cl_sh dd t1 = 2) (h : f_X3_isCommand M t0 t1 a2 = some (r, M')) : cl_Mi l dd b yX3_isCommand cX3_isCommand 3 (some .boolean) 6 127 [.ref (b + t0), .ref (b + t1), .int a2] M r M' :=
  cl_of hlt (by decide) (Nat.le_of_ble_eq_true rfl) (fun p e s m below meth c ls C hw hl => k_X3_isCommand C M t0 t1 a2 r M' h _ _ _ ht0 ht1 hw (lv_sub hl [0, 1, 2] rfl))
theorem cy_X3_isCommand : cl_cy yX3_isCommand cX3_isCommand 3 (some .boolean) 2 := ⟨in_ClothesLine_TextReader, cd_X3_isCommand, by decide +kernel, by decide +kernel, by decide +kernel⟩
theorem vy_X3_isCommand : cl_vy yX3_isCommand := ⟨im_X3_isCommand, se_X3_isCommand⟩
def f_X3_readArguments_118 (M : cl_M) (z0 : Int32) : Option (Int32 × cl_M) := if cl_bz z0 = true then some (z0, M) else none
set_option maxHeartbeats 4000000 in
set_option maxRecDepth 100000 in
theorem k_X3_readArguments_118 {p : Program} {l : Launch} {e : Env} {s : State} {m : MethodId} {args : Array Value} {below : List Frame} {meth : Method} {c : Code} {dd : cl_D} {b : Nat} (C : cl_C p l s m args meth c cX3_readArguments RX3 3 (some .boolean) dd b) : ∀ (M : cl_M) (z0 : Int32) (r : Int32) (M' : cl_M), f_X3_readArguments_118 M z0 = some (r, M') → ∀ (H : Heap) (locs : List Loc) (ls : Array Slot), cl_H dd b M s H locs → lv_has ls 3 [] → W p l e { frames := 4, cells := 0, slots := 0, locals := 83 } s m args below meth c H locs 0 0 (cl_Zi below args s dd b r M') (F0 m 118 ls [.int z0]) := by
  have hx := C.1
  have hb := C.2.1
  have hlt := C.2.2.2.2.2.2.2.2.2.2
  have hRr := C.2.2.2.2.2.2.2.2.2.1
  intro M z0 r M' hf H locs ls hw hl
  unfold f_X3_readArguments_118 at hf
  obtain ⟨q7, hf⟩ := cl_grd hf
  obtain ⟨rfl, rfl⟩ := cl_pair hf
  exact cr_retz C hw q7 dX3_readArguments_118
def f_X3_readArguments_165 (M : cl_M) (z0 : Int32) : Option (Int32 × cl_M) := if cl_bz z0 = true then some (z0, M) else none
set_option maxHeartbeats 4000000 in
set_option maxRecDepth 100000 in
theorem k_X3_readArguments_165 {p : Program} {l : Launch} {e : Env} {s : State} {m : MethodId} {args : Array Value} {below : List Frame} {meth : Method} {c : Code} {dd : cl_D} {b : Nat} (C : cl_C p l s m args meth c cX3_readArguments RX3 3 (some .boolean) dd b) : ∀ (M : cl_M) (z0 : Int32) (r : Int32) (M' : cl_M), f_X3_readArguments_165 M z0 = some (r, M') → ∀ (H : Heap) (locs : List Loc) (ls : Array Slot), cl_H dd b M s H locs → lv_has ls 3 [] → W p l e { frames := 4, cells := 0, slots := 0, locals := 83 } s m args below meth c H locs 0 0 (cl_Zi below args s dd b r M') (F0 m 165 ls [.int z0]) := by
  have hx := C.1
  have hb := C.2.1
  have hlt := C.2.2.2.2.2.2.2.2.2.2
  have hRr := C.2.2.2.2.2.2.2.2.2.1
  intro M z0 r M' hf H locs ls hw hl
  unfold f_X3_readArguments_165 at hf
  obtain ⟨q25, hf⟩ := cl_grd hf
  obtain ⟨rfl, rfl⟩ := cl_pair hf
  exact cr_retz C hw q25 dX3_readArguments_165
def f_X3_readArguments_313 (M : cl_M) (t0 : Nat) (a2 : Int32) : Option (Int32 × cl_M) := cl_b2 (f_X3_readNumber M t0 0 0 a2) (fun v39 M40 => if cl_bz v39 = true then some (v39, M40) else none)
set_option maxHeartbeats 4000000 in
set_option maxRecDepth 100000 in
theorem k_X3_readArguments_313 {p : Program} {l : Launch} {e : Env} {s : State} {m : MethodId} {args : Array Value} {below : List Frame} {meth : Method} {c : Code} {dd : cl_D} {b : Nat} (C : cl_C p l s m args meth c cX3_readArguments RX3 3 (some .boolean) dd b) : ∀ (M : cl_M) (t0 : Nat) (a2 : Int32) (r : Int32) (M' : cl_M), f_X3_readArguments_313 M t0 a2 = some (r, M') → ∀ (H : Heap) (locs : List Loc) (ls : Array Slot), cl_sh dd t0 = 3 → cl_H dd b M s H locs → lv_has ls 3 [(0, .ref (b + t0)), (2, .int a2)] → W p l e { frames := 4, cells := 0, slots := 0, locals := 83 } s m args below meth c H locs 0 0 (cl_Zi below args s dd b r M') (F0 m 313 ls []) := by
  have hx := C.1
  have hb := C.2.1
  have hlt := C.2.2.2.2.2.2.2.2.2.2
  have hRr := C.2.2.2.2.2.2.2.2.2.1
  intro M t0 a2 r M' hf H locs ls ht0 hw hl
  unfold f_X3_readArguments_313 at hf
  refine lv_aload_n hx hb dX3_readArguments_313 rfl (lv_at hl 0 rfl) ?_
  refine lv_iconst (v := 0) hx hb dX3_readArguments_314 (by decide) ?_
  refine lv_iconst (v := 0) hx hb dX3_readArguments_315 (by decide) ?_
  refine lv_iload_n hx hb dX3_readArguments_316 rfl (lv_at hl 1 rfl) ?_
  obtain ⟨v39, M40, e41, hf⟩ := cl_b2_e hf
  refine cr_Vi C hw (c_X3_readNumber hlt ht0 e41) cy_X3_readNumber vy_X3_readNumber ml_X3_60 (cl_lt ht0 (by decide)) (cl_e3 ht0) rfl rfl (As := [.int 0, .int 0, .int a2]) rfl hl.1 rfl ⟨⟨Nat.le_of_ble_eq_true rfl, Nat.le_of_ble_eq_true rfl⟩, Nat.le_of_ble_eq_true rfl, Nat.le_of_ble_eq_true rfl, Nat.le_of_ble_eq_true rfl⟩ dX3_readArguments_317 (fun H locs hw => ?_)
  obtain ⟨q42, hf⟩ := cl_grd hf
  obtain ⟨rfl, rfl⟩ := cl_pair hf
  exact cr_retz C hw q42 dX3_readArguments_320
def f_X3_readArguments_192 (M : cl_M) (z0 : Int32) : Option (Int32 × cl_M) := if cl_bz z0 = true then some (z0, M) else none
set_option maxHeartbeats 4000000 in
set_option maxRecDepth 100000 in
theorem k_X3_readArguments_192 {p : Program} {l : Launch} {e : Env} {s : State} {m : MethodId} {args : Array Value} {below : List Frame} {meth : Method} {c : Code} {dd : cl_D} {b : Nat} (C : cl_C p l s m args meth c cX3_readArguments RX3 3 (some .boolean) dd b) : ∀ (M : cl_M) (z0 : Int32) (r : Int32) (M' : cl_M), f_X3_readArguments_192 M z0 = some (r, M') → ∀ (H : Heap) (locs : List Loc) (ls : Array Slot), cl_H dd b M s H locs → lv_has ls 3 [] → W p l e { frames := 4, cells := 0, slots := 0, locals := 83 } s m args below meth c H locs 0 0 (cl_Zi below args s dd b r M') (F0 m 192 ls [.int z0]) := by
  have hx := C.1
  have hb := C.2.1
  have hlt := C.2.2.2.2.2.2.2.2.2.2
  have hRr := C.2.2.2.2.2.2.2.2.2.1
  intro M z0 r M' hf H locs ls hw hl
  unfold f_X3_readArguments_192 at hf
  obtain ⟨q50, hf⟩ := cl_grd hf
  obtain ⟨rfl, rfl⟩ := cl_pair hf
  exact cr_retz C hw q50 dX3_readArguments_192
def f_X3_readArguments_233 (M : cl_M) (z0 : Int32) : Option (Int32 × cl_M) := if cl_bz z0 = true then some (z0, M) else none
set_option maxHeartbeats 4000000 in
set_option maxRecDepth 100000 in
theorem k_X3_readArguments_233 {p : Program} {l : Launch} {e : Env} {s : State} {m : MethodId} {args : Array Value} {below : List Frame} {meth : Method} {c : Code} {dd : cl_D} {b : Nat} (C : cl_C p l s m args meth c cX3_readArguments RX3 3 (some .boolean) dd b) : ∀ (M : cl_M) (z0 : Int32) (r : Int32) (M' : cl_M), f_X3_readArguments_233 M z0 = some (r, M') → ∀ (H : Heap) (locs : List Loc) (ls : Array Slot), cl_H dd b M s H locs → lv_has ls 3 [] → W p l e { frames := 4, cells := 0, slots := 0, locals := 83 } s m args below meth c H locs 0 0 (cl_Zi below args s dd b r M') (F0 m 233 ls [.int z0]) := by
  have hx := C.1
  have hb := C.2.1
  have hlt := C.2.2.2.2.2.2.2.2.2.2
  have hRr := C.2.2.2.2.2.2.2.2.2.1
  intro M z0 r M' hf H locs ls hw hl
  unfold f_X3_readArguments_233 at hf
  obtain ⟨q60, hf⟩ := cl_grd hf
  obtain ⟨rfl, rfl⟩ := cl_pair hf
  exact cr_retz C hw q60 dX3_readArguments_233
def f_X3_readArguments_268 (M : cl_M) (z0 : Int32) : Option (Int32 × cl_M) := if cl_bz z0 = true then some (z0, M) else none
set_option maxHeartbeats 4000000 in
set_option maxRecDepth 100000 in
theorem k_X3_readArguments_268 {p : Program} {l : Launch} {e : Env} {s : State} {m : MethodId} {args : Array Value} {below : List Frame} {meth : Method} {c : Code} {dd : cl_D} {b : Nat} (C : cl_C p l s m args meth c cX3_readArguments RX3 3 (some .boolean) dd b) : ∀ (M : cl_M) (z0 : Int32) (r : Int32) (M' : cl_M), f_X3_readArguments_268 M z0 = some (r, M') → ∀ (H : Heap) (locs : List Loc) (ls : Array Slot), cl_H dd b M s H locs → lv_has ls 3 [] → W p l e { frames := 4, cells := 0, slots := 0, locals := 83 } s m args below meth c H locs 0 0 (cl_Zi below args s dd b r M') (F0 m 268 ls [.int z0]) := by
  have hx := C.1
  have hb := C.2.1
  have hlt := C.2.2.2.2.2.2.2.2.2.2
  have hRr := C.2.2.2.2.2.2.2.2.2.1
  intro M z0 r M' hf H locs ls hw hl
  unfold f_X3_readArguments_268 at hf
  obtain ⟨q74, hf⟩ := cl_grd hf
  obtain ⟨rfl, rfl⟩ := cl_pair hf
  exact cr_retz C hw q74 dX3_readArguments_268
def f_X3_readArguments_302 (M : cl_M) (z0 : Int32) : Option (Int32 × cl_M) := if cl_bz z0 = true then some (z0, M) else none
set_option maxHeartbeats 4000000 in
set_option maxRecDepth 100000 in
theorem k_X3_readArguments_302 {p : Program} {l : Launch} {e : Env} {s : State} {m : MethodId} {args : Array Value} {below : List Frame} {meth : Method} {c : Code} {dd : cl_D} {b : Nat} (C : cl_C p l s m args meth c cX3_readArguments RX3 3 (some .boolean) dd b) : ∀ (M : cl_M) (z0 : Int32) (r : Int32) (M' : cl_M), f_X3_readArguments_302 M z0 = some (r, M') → ∀ (H : Heap) (locs : List Loc) (ls : Array Slot), cl_H dd b M s H locs → lv_has ls 3 [] → W p l e { frames := 4, cells := 0, slots := 0, locals := 83 } s m args below meth c H locs 0 0 (cl_Zi below args s dd b r M') (F0 m 302 ls [.int z0]) := by
  have hx := C.1
  have hb := C.2.1
  have hlt := C.2.2.2.2.2.2.2.2.2.2
  have hRr := C.2.2.2.2.2.2.2.2.2.1
  intro M z0 r M' hf H locs ls hw hl
  unfold f_X3_readArguments_302 at hf
  obtain ⟨q84, hf⟩ := cl_grd hf
  obtain ⟨rfl, rfl⟩ := cl_pair hf
  exact cr_retz C hw q84 dX3_readArguments_302
def f_X3_readArguments (M : cl_M) (t0 : Nat) (t1 : Nat) : Option (Int32 × cl_M) := cl_let ((M t1 3) - 1) (fun v1 => if (M t0 6) = 1 then cl_b2 (f_X3_readNumber M t0 0 1 6) (fun v3 M4 => if v3 = 0 then f_X3_readArguments_118 M4 0 else cl_b2 (f_X3_readNumber M4 t0 1 1 99) (fun v8 M9 => if v8 = 0 then f_X3_readArguments_118 M9 0 else cl_b2 (f_X3_readNumber M9 t0 2 1 999) (fun v12 M13 => if v12 = 0 then f_X3_readArguments_118 M13 0 else cl_b2 (f_X3_readNumber M13 t0 3 0 (M13 (t0 + 2) 2)) (fun v16 M17 => if v16 = 0 then f_X3_readArguments_118 M17 0 else f_X3_readArguments_118 M17 1)))) else if (M t0 6) = 2 then cl_b2 (f_X3_readNumber M t0 0 0 v1) (fun v21 M22 => if v21 = 0 then f_X3_readArguments_165 M22 0 else cl_b2 (f_X3_readNumber M22 t0 1 0 23) (fun v26 M27 => if v26 = 0 then f_X3_readArguments_165 M27 0 else cl_b2 (f_X3_readNumber M27 t0 2 0 4) (fun v30 M31 => if v30 = 0 then f_X3_readArguments_165 M31 0 else cl_b2 (f_X3_readNumber M31 t0 3 0 4) (fun v34 M35 => if v34 = 0 then f_X3_readArguments_165 M35 0 else f_X3_readArguments_165 M35 1)))) else if (M t0 6) = 3 then f_X3_readArguments_313 M t0 v1 else if (M t0 6) = 4 then f_X3_readArguments_313 M t0 v1 else if (M t0 6) = 5 then f_X3_readArguments_313 M t0 v1 else if (M t0 6) = 6 then cl_b2 (f_X3_readNumber M t0 0 0 v1) (fun v46 M47 => if v46 = 0 then f_X3_readArguments_192 M47 0 else cl_b2 (f_X3_readNumber M47 t0 1 0 23) (fun v51 M52 => if v51 = 0 then f_X3_readArguments_192 M52 0 else f_X3_readArguments_192 M52 1)) else if (M t0 6) = 7 then cl_b2 (f_X3_readNumber M t0 0 0 9999) (fun v56 M57 => if v56 = 0 then f_X3_readArguments_233 M57 0 else cl_b2 (f_X3_readNumber M57 t0 1 1 200) (fun v61 M62 => if v61 = 0 then f_X3_readArguments_233 M62 0 else cl_b2 (f_X3_readNumber M62 t0 2 1 20) (fun v65 M66 => if v65 = 0 then f_X3_readArguments_233 M66 0 else f_X3_readArguments_233 M66 1))) else if (M t0 6) = 8 then cl_b2 (f_X3_readNumber M t0 0 0 9999) (fun v70 M71 => if v70 = 0 then f_X3_readArguments_268 M71 0 else cl_b2 (f_X3_readNumber M71 t0 1 (M71 (t0 + 2) 0) 9999) (fun v75 M76 => if v75 = 0 then f_X3_readArguments_268 M76 0 else f_X3_readArguments_268 M76 1)) else if (M t0 6) = 9 then cl_b2 (f_X3_readNumber M t0 0 0 ((M (t1 + 1) 2) - 1)) (fun v80 M81 => if v80 = 0 then f_X3_readArguments_302 M81 0 else cl_b2 (f_X3_readNumber M81 t0 1 0 5) (fun v85 M86 => if v85 = 0 then f_X3_readArguments_302 M86 0 else f_X3_readArguments_302 M86 1)) else if (M t0 6) = 10 then cl_b2 (f_X3_readNumber M t0 0 1 200) (fun v90 M91 => if cl_bz v90 = true then some (v90, M91) else none) else f_X3_readArguments_313 M t0 v1)
set_option maxHeartbeats 4000000 in
set_option maxRecDepth 100000 in
theorem k_X3_readArguments {p : Program} {l : Launch} {e : Env} {s : State} {m : MethodId} {args : Array Value} {below : List Frame} {meth : Method} {c : Code} {dd : cl_D} {b : Nat} (C : cl_C p l s m args meth c cX3_readArguments RX3 3 (some .boolean) dd b) : ∀ (M : cl_M) (t0 : Nat) (t1 : Nat) (r : Int32) (M' : cl_M), f_X3_readArguments M t0 t1 = some (r, M') → ∀ (H : Heap) (locs : List Loc) (ls : Array Slot), cl_sh dd t0 = 3 → cl_sh dd t1 = 2 → cl_H dd b M s H locs → lv_has ls 3 [(0, .ref (b + t0)), (1, .ref (b + t1))] → W p l e { frames := 4, cells := 0, slots := 0, locals := 83 } s m args below meth c H locs 0 0 (cl_Zi below args s dd b r M') (F0 m 0 ls []) := by
  have hx := C.1
  have hb := C.2.1
  have hlt := C.2.2.2.2.2.2.2.2.2.2
  have hRr := C.2.2.2.2.2.2.2.2.2.1
  intro M t0 t1 r M' hf H locs ls ht0 ht1 hw hl
  unfold f_X3_readArguments at hf
  refine lv_aload_n hx hb dX3_readArguments_0 rfl (lv_at hl 1 rfl) ?_
  refine fg_X3_165 C hw ht1 dX3_readArguments_1 ?_
  refine lv_iconst (v := 1) hx hb dX3_readArguments_4 (by decide) ?_
  refine lv_isub hx hb dX3_readArguments_5 ?_
  obtain ⟨v1, ev1, hf⟩ := cl_let_e hf
  refine cr_top ev1 ?_
  refine lv_istore_n (lv' := [(2, .int v1), (0, .ref (b + t0)), (1, .ref (b + t1))]) hx hb dX3_readArguments_6 rfl hl (by decide) rfl (fun ls hl => ?_)
  refine lv_aload_n hx hb dX3_readArguments_7 rfl (lv_at hl 1 rfl) ?_
  refine fg_X3_141 C hw ht0 dX3_readArguments_8 ?_
  by_cases c2 : (M t0 6) = 1
  · have hf := cl_yes c2 hf
    refine lv_tableIn (tgt := 64) (off := 53) hx hb dX3_readArguments_11 (by rw [c2]; decide) (by rw [c2]; decide) (by rw [c2]; rfl) (by decide) ?_
    refine lv_aload_n hx hb dX3_readArguments_64 rfl (lv_at hl 1 rfl) ?_
    refine lv_iconst (v := 0) hx hb dX3_readArguments_65 (by decide) ?_
    refine lv_iconst (v := 1) hx hb dX3_readArguments_66 (by decide) ?_
    refine lv_bipush (v := 6) hx hb dX3_readArguments_67 (by decide) ?_
    obtain ⟨v3, M4, e5, hf⟩ := cl_b2_e hf
    refine cr_Vi C hw (c_X3_readNumber hlt ht0 e5) cy_X3_readNumber vy_X3_readNumber ml_X3_60 (cl_lt ht0 (by decide)) (cl_e3 ht0) rfl rfl (As := [.int 0, .int 1, .int 6]) rfl hl.1 rfl ⟨⟨Nat.le_of_ble_eq_true rfl, Nat.le_of_ble_eq_true rfl⟩, Nat.le_of_ble_eq_true rfl, Nat.le_of_ble_eq_true rfl, Nat.le_of_ble_eq_true rfl⟩ dX3_readArguments_69 (fun H locs hw => ?_)
    refine lv_if_eq (tgt := 117) hx hb dX3_readArguments_72 (by decide) (fun c6 => ?_) (fun c6 => ?_)
    · have hf := cl_yes c6 hf
      refine lv_iconst (v := 0) hx hb dX3_readArguments_117 (by decide) ?_
      exact k_X3_readArguments_118 C M4 0 _ _ hf _ _ _ hw (lv_sub hl [] rfl)
    · have hf := cl_no c6 hf
      refine lv_aload_n hx hb dX3_readArguments_75 rfl (lv_at hl 1 rfl) ?_
      refine lv_iconst (v := 1) hx hb dX3_readArguments_76 (by decide) ?_
      refine lv_iconst (v := 1) hx hb dX3_readArguments_77 (by decide) ?_
      refine lv_bipush (v := 99) hx hb dX3_readArguments_78 (by decide) ?_
      obtain ⟨v8, M9, e10, hf⟩ := cl_b2_e hf
      refine cr_Vi C hw (c_X3_readNumber hlt ht0 e10) cy_X3_readNumber vy_X3_readNumber ml_X3_60 (cl_lt ht0 (by decide)) (cl_e3 ht0) rfl rfl (As := [.int 1, .int 1, .int 99]) rfl hl.1 rfl ⟨⟨Nat.le_of_ble_eq_true rfl, Nat.le_of_ble_eq_true rfl⟩, Nat.le_of_ble_eq_true rfl, Nat.le_of_ble_eq_true rfl, Nat.le_of_ble_eq_true rfl⟩ dX3_readArguments_80 (fun H locs hw => ?_)
      refine lv_if_eq (tgt := 117) hx hb dX3_readArguments_83 (by decide) (fun c11 => ?_) (fun c11 => ?_)
      · have hf := cl_yes c11 hf
        refine lv_iconst (v := 0) hx hb dX3_readArguments_117 (by decide) ?_
        exact k_X3_readArguments_118 C M9 0 _ _ hf _ _ _ hw (lv_sub hl [] rfl)
      · have hf := cl_no c11 hf
        refine lv_aload_n hx hb dX3_readArguments_86 rfl (lv_at hl 1 rfl) ?_
        refine lv_iconst (v := 2) hx hb dX3_readArguments_87 (by decide) ?_
        refine lv_iconst (v := 1) hx hb dX3_readArguments_88 (by decide) ?_
        refine lv_sipush (v := 999) hx hb dX3_readArguments_89 (by decide) ?_
        obtain ⟨v12, M13, e14, hf⟩ := cl_b2_e hf
        refine cr_Vi C hw (c_X3_readNumber hlt ht0 e14) cy_X3_readNumber vy_X3_readNumber ml_X3_60 (cl_lt ht0 (by decide)) (cl_e3 ht0) rfl rfl (As := [.int 2, .int 1, .int 999]) rfl hl.1 rfl ⟨⟨Nat.le_of_ble_eq_true rfl, Nat.le_of_ble_eq_true rfl⟩, Nat.le_of_ble_eq_true rfl, Nat.le_of_ble_eq_true rfl, Nat.le_of_ble_eq_true rfl⟩ dX3_readArguments_92 (fun H locs hw => ?_)
        refine lv_if_eq (tgt := 117) hx hb dX3_readArguments_95 (by decide) (fun c15 => ?_) (fun c15 => ?_)
        · have hf := cl_yes c15 hf
          refine lv_iconst (v := 0) hx hb dX3_readArguments_117 (by decide) ?_
          exact k_X3_readArguments_118 C M13 0 _ _ hf _ _ _ hw (lv_sub hl [] rfl)
        · have hf := cl_no c15 hf
          refine lv_aload_n hx hb dX3_readArguments_98 rfl (lv_at hl 1 rfl) ?_
          refine lv_iconst (v := 3) hx hb dX3_readArguments_99 (by decide) ?_
          refine lv_iconst (v := 0) hx hb dX3_readArguments_100 (by decide) ?_
          refine lv_aload_n hx hb dX3_readArguments_101 rfl (lv_at hl 1 rfl) ?_
          refine fg_X3_15 C hw ht0 dX3_readArguments_102 ?_
          refine lv_iconst (v := 2) hx hb dX3_readArguments_105 (by decide) ?_
          refine cr_iald C hw (sh_3_7 ht0).1 (sh_3_7 ht0).2 (by decide) (k := 2) rfl dX3_readArguments_106 ?_
          obtain ⟨v16, M17, e18, hf⟩ := cl_b2_e hf
          refine cr_Vi C hw (c_X3_readNumber hlt ht0 e18) cy_X3_readNumber vy_X3_readNumber ml_X3_60 (cl_lt ht0 (by decide)) (cl_e3 ht0) rfl rfl (As := [.int 3, .int 0, .int (M13 (t0 + 2) 2)]) rfl hl.1 rfl ⟨⟨Nat.le_of_ble_eq_true rfl, Nat.le_of_ble_eq_true rfl⟩, Nat.le_of_ble_eq_true rfl, Nat.le_of_ble_eq_true rfl, Nat.le_of_ble_eq_true rfl⟩ dX3_readArguments_107 (fun H locs hw => ?_)
          refine lv_if_eq (tgt := 117) hx hb dX3_readArguments_110 (by decide) (fun c19 => ?_) (fun c19 => ?_)
          · have hf := cl_yes c19 hf
            refine lv_iconst (v := 0) hx hb dX3_readArguments_117 (by decide) ?_
            exact k_X3_readArguments_118 C M17 0 _ _ hf _ _ _ hw (lv_sub hl [] rfl)
          · have hf := cl_no c19 hf
            refine lv_iconst (v := 1) hx hb dX3_readArguments_113 (by decide) ?_
            refine lv_goto (tgt := 118) hx hb dX3_readArguments_114 (by decide) ?_
            exact k_X3_readArguments_118 C M17 1 _ _ hf _ _ _ hw (lv_sub hl [] rfl)
  have hf := cl_no c2 hf
  by_cases c20 : (M t0 6) = 2
  · have hf := cl_yes c20 hf
    refine lv_tableIn (tgt := 119) (off := 108) hx hb dX3_readArguments_11 (by rw [c20]; decide) (by rw [c20]; decide) (by rw [c20]; rfl) (by decide) ?_
    refine lv_aload_n hx hb dX3_readArguments_119 rfl (lv_at hl 1 rfl) ?_
    refine lv_iconst (v := 0) hx hb dX3_readArguments_120 (by decide) ?_
    refine lv_iconst (v := 0) hx hb dX3_readArguments_121 (by decide) ?_
    refine lv_iload_n hx hb dX3_readArguments_122 rfl (lv_at hl 0 rfl) ?_
    obtain ⟨v21, M22, e23, hf⟩ := cl_b2_e hf
    refine cr_Vi C hw (c_X3_readNumber hlt ht0 e23) cy_X3_readNumber vy_X3_readNumber ml_X3_60 (cl_lt ht0 (by decide)) (cl_e3 ht0) rfl rfl (As := [.int 0, .int 0, .int v1]) rfl hl.1 rfl ⟨⟨Nat.le_of_ble_eq_true rfl, Nat.le_of_ble_eq_true rfl⟩, Nat.le_of_ble_eq_true rfl, Nat.le_of_ble_eq_true rfl, Nat.le_of_ble_eq_true rfl⟩ dX3_readArguments_123 (fun H locs hw => ?_)
    refine lv_if_eq (tgt := 164) hx hb dX3_readArguments_126 (by decide) (fun c24 => ?_) (fun c24 => ?_)
    · have hf := cl_yes c24 hf
      refine lv_iconst (v := 0) hx hb dX3_readArguments_164 (by decide) ?_
      exact k_X3_readArguments_165 C M22 0 _ _ hf _ _ _ hw (lv_sub hl [] rfl)
    · have hf := cl_no c24 hf
      refine lv_aload_n hx hb dX3_readArguments_129 rfl (lv_at hl 1 rfl) ?_
      refine lv_iconst (v := 1) hx hb dX3_readArguments_130 (by decide) ?_
      refine lv_iconst (v := 0) hx hb dX3_readArguments_131 (by decide) ?_
      refine lv_bipush (v := 23) hx hb dX3_readArguments_132 (by decide) ?_
      obtain ⟨v26, M27, e28, hf⟩ := cl_b2_e hf
      refine cr_Vi C hw (c_X3_readNumber hlt ht0 e28) cy_X3_readNumber vy_X3_readNumber ml_X3_60 (cl_lt ht0 (by decide)) (cl_e3 ht0) rfl rfl (As := [.int 1, .int 0, .int 23]) rfl hl.1 rfl ⟨⟨Nat.le_of_ble_eq_true rfl, Nat.le_of_ble_eq_true rfl⟩, Nat.le_of_ble_eq_true rfl, Nat.le_of_ble_eq_true rfl, Nat.le_of_ble_eq_true rfl⟩ dX3_readArguments_134 (fun H locs hw => ?_)
      refine lv_if_eq (tgt := 164) hx hb dX3_readArguments_137 (by decide) (fun c29 => ?_) (fun c29 => ?_)
      · have hf := cl_yes c29 hf
        refine lv_iconst (v := 0) hx hb dX3_readArguments_164 (by decide) ?_
        exact k_X3_readArguments_165 C M27 0 _ _ hf _ _ _ hw (lv_sub hl [] rfl)
      · have hf := cl_no c29 hf
        refine lv_aload_n hx hb dX3_readArguments_140 rfl (lv_at hl 1 rfl) ?_
        refine lv_iconst (v := 2) hx hb dX3_readArguments_141 (by decide) ?_
        refine lv_iconst (v := 0) hx hb dX3_readArguments_142 (by decide) ?_
        refine lv_iconst (v := 4) hx hb dX3_readArguments_143 (by decide) ?_
        obtain ⟨v30, M31, e32, hf⟩ := cl_b2_e hf
        refine cr_Vi C hw (c_X3_readNumber hlt ht0 e32) cy_X3_readNumber vy_X3_readNumber ml_X3_60 (cl_lt ht0 (by decide)) (cl_e3 ht0) rfl rfl (As := [.int 2, .int 0, .int 4]) rfl hl.1 rfl ⟨⟨Nat.le_of_ble_eq_true rfl, Nat.le_of_ble_eq_true rfl⟩, Nat.le_of_ble_eq_true rfl, Nat.le_of_ble_eq_true rfl, Nat.le_of_ble_eq_true rfl⟩ dX3_readArguments_144 (fun H locs hw => ?_)
        refine lv_if_eq (tgt := 164) hx hb dX3_readArguments_147 (by decide) (fun c33 => ?_) (fun c33 => ?_)
        · have hf := cl_yes c33 hf
          refine lv_iconst (v := 0) hx hb dX3_readArguments_164 (by decide) ?_
          exact k_X3_readArguments_165 C M31 0 _ _ hf _ _ _ hw (lv_sub hl [] rfl)
        · have hf := cl_no c33 hf
          refine lv_aload_n hx hb dX3_readArguments_150 rfl (lv_at hl 1 rfl) ?_
          refine lv_iconst (v := 3) hx hb dX3_readArguments_151 (by decide) ?_
          refine lv_iconst (v := 0) hx hb dX3_readArguments_152 (by decide) ?_
          refine lv_iconst (v := 4) hx hb dX3_readArguments_153 (by decide) ?_
          obtain ⟨v34, M35, e36, hf⟩ := cl_b2_e hf
          refine cr_Vi C hw (c_X3_readNumber hlt ht0 e36) cy_X3_readNumber vy_X3_readNumber ml_X3_60 (cl_lt ht0 (by decide)) (cl_e3 ht0) rfl rfl (As := [.int 3, .int 0, .int 4]) rfl hl.1 rfl ⟨⟨Nat.le_of_ble_eq_true rfl, Nat.le_of_ble_eq_true rfl⟩, Nat.le_of_ble_eq_true rfl, Nat.le_of_ble_eq_true rfl, Nat.le_of_ble_eq_true rfl⟩ dX3_readArguments_154 (fun H locs hw => ?_)
          refine lv_if_eq (tgt := 164) hx hb dX3_readArguments_157 (by decide) (fun c37 => ?_) (fun c37 => ?_)
          · have hf := cl_yes c37 hf
            refine lv_iconst (v := 0) hx hb dX3_readArguments_164 (by decide) ?_
            exact k_X3_readArguments_165 C M35 0 _ _ hf _ _ _ hw (lv_sub hl [] rfl)
          · have hf := cl_no c37 hf
            refine lv_iconst (v := 1) hx hb dX3_readArguments_160 (by decide) ?_
            refine lv_goto (tgt := 165) hx hb dX3_readArguments_161 (by decide) ?_
            exact k_X3_readArguments_165 C M35 1 _ _ hf _ _ _ hw (lv_sub hl [] rfl)
  have hf := cl_no c20 hf
  by_cases c38 : (M t0 6) = 3
  · have hf := cl_yes c38 hf
    refine lv_tableIn (tgt := 313) (off := 302) hx hb dX3_readArguments_11 (by rw [c38]; decide) (by rw [c38]; decide) (by rw [c38]; rfl) (by decide) ?_
    exact k_X3_readArguments_313 C M t0 v1 _ _ hf _ _ _ ht0 hw (lv_sub hl [1, 0] rfl)
  have hf := cl_no c38 hf
  by_cases c43 : (M t0 6) = 4
  · have hf := cl_yes c43 hf
    refine lv_tableIn (tgt := 313) (off := 302) hx hb dX3_readArguments_11 (by rw [c43]; decide) (by rw [c43]; decide) (by rw [c43]; rfl) (by decide) ?_
    exact k_X3_readArguments_313 C M t0 v1 _ _ hf _ _ _ ht0 hw (lv_sub hl [1, 0] rfl)
  have hf := cl_no c43 hf
  by_cases c44 : (M t0 6) = 5
  · have hf := cl_yes c44 hf
    refine lv_tableIn (tgt := 313) (off := 302) hx hb dX3_readArguments_11 (by rw [c44]; decide) (by rw [c44]; decide) (by rw [c44]; rfl) (by decide) ?_
    exact k_X3_readArguments_313 C M t0 v1 _ _ hf _ _ _ ht0 hw (lv_sub hl [1, 0] rfl)
  have hf := cl_no c44 hf
  by_cases c45 : (M t0 6) = 6
  · have hf := cl_yes c45 hf
    refine lv_tableIn (tgt := 166) (off := 155) hx hb dX3_readArguments_11 (by rw [c45]; decide) (by rw [c45]; decide) (by rw [c45]; rfl) (by decide) ?_
    refine lv_aload_n hx hb dX3_readArguments_166 rfl (lv_at hl 1 rfl) ?_
    refine lv_iconst (v := 0) hx hb dX3_readArguments_167 (by decide) ?_
    refine lv_iconst (v := 0) hx hb dX3_readArguments_168 (by decide) ?_
    refine lv_iload_n hx hb dX3_readArguments_169 rfl (lv_at hl 0 rfl) ?_
    obtain ⟨v46, M47, e48, hf⟩ := cl_b2_e hf
    refine cr_Vi C hw (c_X3_readNumber hlt ht0 e48) cy_X3_readNumber vy_X3_readNumber ml_X3_60 (cl_lt ht0 (by decide)) (cl_e3 ht0) rfl rfl (As := [.int 0, .int 0, .int v1]) rfl hl.1 rfl ⟨⟨Nat.le_of_ble_eq_true rfl, Nat.le_of_ble_eq_true rfl⟩, Nat.le_of_ble_eq_true rfl, Nat.le_of_ble_eq_true rfl, Nat.le_of_ble_eq_true rfl⟩ dX3_readArguments_170 (fun H locs hw => ?_)
    refine lv_if_eq (tgt := 191) hx hb dX3_readArguments_173 (by decide) (fun c49 => ?_) (fun c49 => ?_)
    · have hf := cl_yes c49 hf
      refine lv_iconst (v := 0) hx hb dX3_readArguments_191 (by decide) ?_
      exact k_X3_readArguments_192 C M47 0 _ _ hf _ _ _ hw (lv_sub hl [] rfl)
    · have hf := cl_no c49 hf
      refine lv_aload_n hx hb dX3_readArguments_176 rfl (lv_at hl 1 rfl) ?_
      refine lv_iconst (v := 1) hx hb dX3_readArguments_177 (by decide) ?_
      refine lv_iconst (v := 0) hx hb dX3_readArguments_178 (by decide) ?_
      refine lv_bipush (v := 23) hx hb dX3_readArguments_179 (by decide) ?_
      obtain ⟨v51, M52, e53, hf⟩ := cl_b2_e hf
      refine cr_Vi C hw (c_X3_readNumber hlt ht0 e53) cy_X3_readNumber vy_X3_readNumber ml_X3_60 (cl_lt ht0 (by decide)) (cl_e3 ht0) rfl rfl (As := [.int 1, .int 0, .int 23]) rfl hl.1 rfl ⟨⟨Nat.le_of_ble_eq_true rfl, Nat.le_of_ble_eq_true rfl⟩, Nat.le_of_ble_eq_true rfl, Nat.le_of_ble_eq_true rfl, Nat.le_of_ble_eq_true rfl⟩ dX3_readArguments_181 (fun H locs hw => ?_)
      refine lv_if_eq (tgt := 191) hx hb dX3_readArguments_184 (by decide) (fun c54 => ?_) (fun c54 => ?_)
      · have hf := cl_yes c54 hf
        refine lv_iconst (v := 0) hx hb dX3_readArguments_191 (by decide) ?_
        exact k_X3_readArguments_192 C M52 0 _ _ hf _ _ _ hw (lv_sub hl [] rfl)
      · have hf := cl_no c54 hf
        refine lv_iconst (v := 1) hx hb dX3_readArguments_187 (by decide) ?_
        refine lv_goto (tgt := 192) hx hb dX3_readArguments_188 (by decide) ?_
        exact k_X3_readArguments_192 C M52 1 _ _ hf _ _ _ hw (lv_sub hl [] rfl)
  have hf := cl_no c45 hf
  by_cases c55 : (M t0 6) = 7
  · have hf := cl_yes c55 hf
    refine lv_tableIn (tgt := 193) (off := 182) hx hb dX3_readArguments_11 (by rw [c55]; decide) (by rw [c55]; decide) (by rw [c55]; rfl) (by decide) ?_
    refine lv_aload_n hx hb dX3_readArguments_193 rfl (lv_at hl 1 rfl) ?_
    refine lv_iconst (v := 0) hx hb dX3_readArguments_194 (by decide) ?_
    refine lv_iconst (v := 0) hx hb dX3_readArguments_195 (by decide) ?_
    refine lv_sipush (v := 9999) hx hb dX3_readArguments_196 (by decide) ?_
    obtain ⟨v56, M57, e58, hf⟩ := cl_b2_e hf
    refine cr_Vi C hw (c_X3_readNumber hlt ht0 e58) cy_X3_readNumber vy_X3_readNumber ml_X3_60 (cl_lt ht0 (by decide)) (cl_e3 ht0) rfl rfl (As := [.int 0, .int 0, .int 9999]) rfl hl.1 rfl ⟨⟨Nat.le_of_ble_eq_true rfl, Nat.le_of_ble_eq_true rfl⟩, Nat.le_of_ble_eq_true rfl, Nat.le_of_ble_eq_true rfl, Nat.le_of_ble_eq_true rfl⟩ dX3_readArguments_199 (fun H locs hw => ?_)
    refine lv_if_eq (tgt := 232) hx hb dX3_readArguments_202 (by decide) (fun c59 => ?_) (fun c59 => ?_)
    · have hf := cl_yes c59 hf
      refine lv_iconst (v := 0) hx hb dX3_readArguments_232 (by decide) ?_
      exact k_X3_readArguments_233 C M57 0 _ _ hf _ _ _ hw (lv_sub hl [] rfl)
    · have hf := cl_no c59 hf
      refine lv_aload_n hx hb dX3_readArguments_205 rfl (lv_at hl 1 rfl) ?_
      refine lv_iconst (v := 1) hx hb dX3_readArguments_206 (by decide) ?_
      refine lv_iconst (v := 1) hx hb dX3_readArguments_207 (by decide) ?_
      refine lv_sipush (v := 200) hx hb dX3_readArguments_208 (by decide) ?_
      obtain ⟨v61, M62, e63, hf⟩ := cl_b2_e hf
      refine cr_Vi C hw (c_X3_readNumber hlt ht0 e63) cy_X3_readNumber vy_X3_readNumber ml_X3_60 (cl_lt ht0 (by decide)) (cl_e3 ht0) rfl rfl (As := [.int 1, .int 1, .int 200]) rfl hl.1 rfl ⟨⟨Nat.le_of_ble_eq_true rfl, Nat.le_of_ble_eq_true rfl⟩, Nat.le_of_ble_eq_true rfl, Nat.le_of_ble_eq_true rfl, Nat.le_of_ble_eq_true rfl⟩ dX3_readArguments_211 (fun H locs hw => ?_)
      refine lv_if_eq (tgt := 232) hx hb dX3_readArguments_214 (by decide) (fun c64 => ?_) (fun c64 => ?_)
      · have hf := cl_yes c64 hf
        refine lv_iconst (v := 0) hx hb dX3_readArguments_232 (by decide) ?_
        exact k_X3_readArguments_233 C M62 0 _ _ hf _ _ _ hw (lv_sub hl [] rfl)
      · have hf := cl_no c64 hf
        refine lv_aload_n hx hb dX3_readArguments_217 rfl (lv_at hl 1 rfl) ?_
        refine lv_iconst (v := 2) hx hb dX3_readArguments_218 (by decide) ?_
        refine lv_iconst (v := 1) hx hb dX3_readArguments_219 (by decide) ?_
        refine lv_bipush (v := 20) hx hb dX3_readArguments_220 (by decide) ?_
        obtain ⟨v65, M66, e67, hf⟩ := cl_b2_e hf
        refine cr_Vi C hw (c_X3_readNumber hlt ht0 e67) cy_X3_readNumber vy_X3_readNumber ml_X3_60 (cl_lt ht0 (by decide)) (cl_e3 ht0) rfl rfl (As := [.int 2, .int 1, .int 20]) rfl hl.1 rfl ⟨⟨Nat.le_of_ble_eq_true rfl, Nat.le_of_ble_eq_true rfl⟩, Nat.le_of_ble_eq_true rfl, Nat.le_of_ble_eq_true rfl, Nat.le_of_ble_eq_true rfl⟩ dX3_readArguments_222 (fun H locs hw => ?_)
        refine lv_if_eq (tgt := 232) hx hb dX3_readArguments_225 (by decide) (fun c68 => ?_) (fun c68 => ?_)
        · have hf := cl_yes c68 hf
          refine lv_iconst (v := 0) hx hb dX3_readArguments_232 (by decide) ?_
          exact k_X3_readArguments_233 C M66 0 _ _ hf _ _ _ hw (lv_sub hl [] rfl)
        · have hf := cl_no c68 hf
          refine lv_iconst (v := 1) hx hb dX3_readArguments_228 (by decide) ?_
          refine lv_goto (tgt := 233) hx hb dX3_readArguments_229 (by decide) ?_
          exact k_X3_readArguments_233 C M66 1 _ _ hf _ _ _ hw (lv_sub hl [] rfl)
  have hf := cl_no c55 hf
  by_cases c69 : (M t0 6) = 8
  · have hf := cl_yes c69 hf
    refine lv_tableIn (tgt := 234) (off := 223) hx hb dX3_readArguments_11 (by rw [c69]; decide) (by rw [c69]; decide) (by rw [c69]; rfl) (by decide) ?_
    refine lv_aload_n hx hb dX3_readArguments_234 rfl (lv_at hl 1 rfl) ?_
    refine lv_iconst (v := 0) hx hb dX3_readArguments_235 (by decide) ?_
    refine lv_iconst (v := 0) hx hb dX3_readArguments_236 (by decide) ?_
    refine lv_sipush (v := 9999) hx hb dX3_readArguments_237 (by decide) ?_
    obtain ⟨v70, M71, e72, hf⟩ := cl_b2_e hf
    refine cr_Vi C hw (c_X3_readNumber hlt ht0 e72) cy_X3_readNumber vy_X3_readNumber ml_X3_60 (cl_lt ht0 (by decide)) (cl_e3 ht0) rfl rfl (As := [.int 0, .int 0, .int 9999]) rfl hl.1 rfl ⟨⟨Nat.le_of_ble_eq_true rfl, Nat.le_of_ble_eq_true rfl⟩, Nat.le_of_ble_eq_true rfl, Nat.le_of_ble_eq_true rfl, Nat.le_of_ble_eq_true rfl⟩ dX3_readArguments_240 (fun H locs hw => ?_)
    refine lv_if_eq (tgt := 267) hx hb dX3_readArguments_243 (by decide) (fun c73 => ?_) (fun c73 => ?_)
    · have hf := cl_yes c73 hf
      refine lv_iconst (v := 0) hx hb dX3_readArguments_267 (by decide) ?_
      exact k_X3_readArguments_268 C M71 0 _ _ hf _ _ _ hw (lv_sub hl [] rfl)
    · have hf := cl_no c73 hf
      refine lv_aload_n hx hb dX3_readArguments_246 rfl (lv_at hl 1 rfl) ?_
      refine lv_iconst (v := 1) hx hb dX3_readArguments_247 (by decide) ?_
      refine lv_aload_n hx hb dX3_readArguments_248 rfl (lv_at hl 1 rfl) ?_
      refine fg_X3_15 C hw ht0 dX3_readArguments_249 ?_
      refine lv_iconst (v := 0) hx hb dX3_readArguments_252 (by decide) ?_
      refine cr_iald C hw (sh_3_7 ht0).1 (sh_3_7 ht0).2 (by decide) (k := 0) rfl dX3_readArguments_253 ?_
      refine lv_sipush (v := 9999) hx hb dX3_readArguments_254 (by decide) ?_
      obtain ⟨v75, M76, e77, hf⟩ := cl_b2_e hf
      refine cr_Vi C hw (c_X3_readNumber hlt ht0 e77) cy_X3_readNumber vy_X3_readNumber ml_X3_60 (cl_lt ht0 (by decide)) (cl_e3 ht0) rfl rfl (As := [.int 1, .int (M71 (t0 + 2) 0), .int 9999]) rfl hl.1 rfl ⟨⟨Nat.le_of_ble_eq_true rfl, Nat.le_of_ble_eq_true rfl⟩, Nat.le_of_ble_eq_true rfl, Nat.le_of_ble_eq_true rfl, Nat.le_of_ble_eq_true rfl⟩ dX3_readArguments_257 (fun H locs hw => ?_)
      refine lv_if_eq (tgt := 267) hx hb dX3_readArguments_260 (by decide) (fun c78 => ?_) (fun c78 => ?_)
      · have hf := cl_yes c78 hf
        refine lv_iconst (v := 0) hx hb dX3_readArguments_267 (by decide) ?_
        exact k_X3_readArguments_268 C M76 0 _ _ hf _ _ _ hw (lv_sub hl [] rfl)
      · have hf := cl_no c78 hf
        refine lv_iconst (v := 1) hx hb dX3_readArguments_263 (by decide) ?_
        refine lv_goto (tgt := 268) hx hb dX3_readArguments_264 (by decide) ?_
        exact k_X3_readArguments_268 C M76 1 _ _ hf _ _ _ hw (lv_sub hl [] rfl)
  have hf := cl_no c69 hf
  by_cases c79 : (M t0 6) = 9
  · have hf := cl_yes c79 hf
    refine lv_tableIn (tgt := 269) (off := 258) hx hb dX3_readArguments_11 (by rw [c79]; decide) (by rw [c79]; decide) (by rw [c79]; rfl) (by decide) ?_
    refine lv_aload_n hx hb dX3_readArguments_269 rfl (lv_at hl 1 rfl) ?_
    refine lv_iconst (v := 0) hx hb dX3_readArguments_270 (by decide) ?_
    refine lv_iconst (v := 0) hx hb dX3_readArguments_271 (by decide) ?_
    refine lv_aload_n hx hb dX3_readArguments_272 rfl (lv_at hl 2 rfl) ?_
    refine fg_X3_76 C hw ht1 dX3_readArguments_273 ?_
    refine fg_X3_174 C hw (sh_2_4 ht1).1 dX3_readArguments_276 ?_
    refine lv_iconst (v := 1) hx hb dX3_readArguments_279 (by decide) ?_
    refine lv_isub hx hb dX3_readArguments_280 ?_
    obtain ⟨v80, M81, e82, hf⟩ := cl_b2_e hf
    refine cr_Vi C hw (c_X3_readNumber hlt ht0 e82) cy_X3_readNumber vy_X3_readNumber ml_X3_60 (cl_lt ht0 (by decide)) (cl_e3 ht0) rfl rfl (As := [.int 0, .int 0, .int ((M (t1 + 1) 2) - 1)]) rfl hl.1 rfl ⟨⟨Nat.le_of_ble_eq_true rfl, Nat.le_of_ble_eq_true rfl⟩, Nat.le_of_ble_eq_true rfl, Nat.le_of_ble_eq_true rfl, Nat.le_of_ble_eq_true rfl⟩ dX3_readArguments_281 (fun H locs hw => ?_)
    refine lv_if_eq (tgt := 301) hx hb dX3_readArguments_284 (by decide) (fun c83 => ?_) (fun c83 => ?_)
    · have hf := cl_yes c83 hf
      refine lv_iconst (v := 0) hx hb dX3_readArguments_301 (by decide) ?_
      exact k_X3_readArguments_302 C M81 0 _ _ hf _ _ _ hw (lv_sub hl [] rfl)
    · have hf := cl_no c83 hf
      refine lv_aload_n hx hb dX3_readArguments_287 rfl (lv_at hl 1 rfl) ?_
      refine lv_iconst (v := 1) hx hb dX3_readArguments_288 (by decide) ?_
      refine lv_iconst (v := 0) hx hb dX3_readArguments_289 (by decide) ?_
      refine lv_iconst (v := 5) hx hb dX3_readArguments_290 (by decide) ?_
      obtain ⟨v85, M86, e87, hf⟩ := cl_b2_e hf
      refine cr_Vi C hw (c_X3_readNumber hlt ht0 e87) cy_X3_readNumber vy_X3_readNumber ml_X3_60 (cl_lt ht0 (by decide)) (cl_e3 ht0) rfl rfl (As := [.int 1, .int 0, .int 5]) rfl hl.1 rfl ⟨⟨Nat.le_of_ble_eq_true rfl, Nat.le_of_ble_eq_true rfl⟩, Nat.le_of_ble_eq_true rfl, Nat.le_of_ble_eq_true rfl, Nat.le_of_ble_eq_true rfl⟩ dX3_readArguments_291 (fun H locs hw => ?_)
      refine lv_if_eq (tgt := 301) hx hb dX3_readArguments_294 (by decide) (fun c88 => ?_) (fun c88 => ?_)
      · have hf := cl_yes c88 hf
        refine lv_iconst (v := 0) hx hb dX3_readArguments_301 (by decide) ?_
        exact k_X3_readArguments_302 C M86 0 _ _ hf _ _ _ hw (lv_sub hl [] rfl)
      · have hf := cl_no c88 hf
        refine lv_iconst (v := 1) hx hb dX3_readArguments_297 (by decide) ?_
        refine lv_goto (tgt := 302) hx hb dX3_readArguments_298 (by decide) ?_
        exact k_X3_readArguments_302 C M86 1 _ _ hf _ _ _ hw (lv_sub hl [] rfl)
  have hf := cl_no c79 hf
  by_cases c89 : (M t0 6) = 10
  · have hf := cl_yes c89 hf
    refine lv_tableIn (tgt := 303) (off := 292) hx hb dX3_readArguments_11 (by rw [c89]; decide) (by rw [c89]; decide) (by rw [c89]; rfl) (by decide) ?_
    refine lv_aload_n hx hb dX3_readArguments_303 rfl (lv_at hl 1 rfl) ?_
    refine lv_iconst (v := 0) hx hb dX3_readArguments_304 (by decide) ?_
    refine lv_iconst (v := 1) hx hb dX3_readArguments_305 (by decide) ?_
    refine lv_sipush (v := 200) hx hb dX3_readArguments_306 (by decide) ?_
    obtain ⟨v90, M91, e92, hf⟩ := cl_b2_e hf
    refine cr_Vi C hw (c_X3_readNumber hlt ht0 e92) cy_X3_readNumber vy_X3_readNumber ml_X3_60 (cl_lt ht0 (by decide)) (cl_e3 ht0) rfl rfl (As := [.int 0, .int 1, .int 200]) rfl hl.1 rfl ⟨⟨Nat.le_of_ble_eq_true rfl, Nat.le_of_ble_eq_true rfl⟩, Nat.le_of_ble_eq_true rfl, Nat.le_of_ble_eq_true rfl, Nat.le_of_ble_eq_true rfl⟩ dX3_readArguments_309 (fun H locs hw => ?_)
    obtain ⟨q93, hf⟩ := cl_grd hf
    obtain ⟨rfl, rfl⟩ := cl_pair hf
    exact cr_retz C hw q93 dX3_readArguments_312
  have hf := cl_no c89 hf
  have qc2 := lv_neT c2 (a := 1) (by decide)
  have qc20 := lv_neT c20 (a := 2) (by decide)
  have qc38 := lv_neT c38 (a := 3) (by decide)
  have qc43 := lv_neT c43 (a := 4) (by decide)
  have qc44 := lv_neT c44 (a := 5) (by decide)
  have qc45 := lv_neT c45 (a := 6) (by decide)
  have qc55 := lv_neT c55 (a := 7) (by decide)
  have qc69 := lv_neT c69 (a := 8) (by decide)
  have qc79 := lv_neT c79 (a := 9) (by decide)
  have qc89 := lv_neT c89 (a := 10) (by decide)
  refine lv_tableOut (tgt := 313) hx hb dX3_readArguments_11 (by omega) (by decide) ?_
  exact k_X3_readArguments_313 C M t0 v1 _ _ hf _ _ _ ht0 hw (lv_sub hl [1, 0] rfl)
set_option maxRecDepth 100000 in
theorem c_X3_readArguments {l : Launch} {dd : cl_D} {b : Nat} (hlt : l.stackTraces = false) {M : cl_M} {t0 : Nat} {t1 : Nat}  {r : Int32} {M' : cl_M} (ht0 : cl_sh dd t0 = 3) (ht1 : cl_sh dd t1 = 2) (h : f_X3_readArguments M t0 t1 = some (r, M')) : cl_Mi l dd b yX3_readArguments cX3_readArguments 3 (some .boolean) 4 83 [.ref (b + t0), .ref (b + t1)] M r M' :=
  cl_of hlt (by decide) (Nat.le_of_ble_eq_true rfl) (fun p e s m below meth c ls C hw hl => k_X3_readArguments C M t0 t1 r M' h _ _ _ ht0 ht1 hw (lv_sub hl [0, 1] rfl))
theorem cy_X3_readArguments : cl_cy yX3_readArguments cX3_readArguments 3 (some .boolean) 1 := ⟨in_ClothesLine_TextReader, cd_X3_readArguments, by decide +kernel, by decide +kernel, by decide +kernel⟩
theorem vy_X3_readArguments : cl_vy yX3_readArguments := ⟨im_X3_readArguments, se_X3_readArguments⟩
def f_X3_handle_152 (M : cl_M) (t2 : Nat) (z0 : Int32) (z1 : Int32) : Option (Int32 × cl_M) := if z1 = z0 then (f_X0_putInto M t2 0).bind (fun M10 => some (1, M10)) else some (0, M)
set_option maxHeartbeats 4000000 in
set_option maxRecDepth 100000 in
theorem k_X3_handle_152 {p : Program} {l : Launch} {e : Env} {s : State} {m : MethodId} {args : Array Value} {below : List Frame} {meth : Method} {c : Code} {dd : cl_D} {b : Nat} (C : cl_C p l s m args meth c cX3_handle RX3 3 (some .boolean) dd b) : ∀ (M : cl_M) (t2 : Nat) (z0 : Int32) (z1 : Int32) (r : Int32) (M' : cl_M), f_X3_handle_152 M t2 z0 z1 = some (r, M') → ∀ (H : Heap) (locs : List Loc) (ls : Array Slot), cl_sh dd t2 = 0 → cl_H dd b M s H locs → lv_has ls 3 [(2, .ref (b + t2))] → W p l e { frames := 3, cells := 0, slots := 0, locals := 65 } s m args below meth c H locs 0 0 (cl_Zi below args s dd b r M') (F0 m 152 ls [.int z0, .int z1]) := by
  have hx := C.1
  have hb := C.2.1
  have hlt := C.2.2.2.2.2.2.2.2.2.2
  have hRr := C.2.2.2.2.2.2.2.2.2.1
  intro M t2 z0 z1 r M' hf H locs ls ht2 hw hl
  unfold f_X3_handle_152 at hf
  refine lv_icmp_eq (tgt := 157) hx hb dX3_handle_152 (by decide) (fun c9 => ?_) (fun c9 => ?_)
  · have hf := cl_yes c9 hf
    refine lv_aload_n hx hb dX3_handle_157 rfl (lv_at hl 0 rfl) ?_
    refine lv_iconst (v := 0) hx hb dX3_handle_158 (by decide) ?_
    obtain ⟨M10, e11, hf⟩ := cl_bind_e hf
    refine cr_Vv C hw (c_X0_putInto hlt ht2 e11) cy_X0_putInto vy_X0_putInto ml_X3_224 (cl_lt ht2 (by decide)) (cl_e0 ht2) rfl rfl (As := [.int 0]) rfl hl.1 rfl ⟨⟨Nat.le_of_ble_eq_true rfl, Nat.le_of_ble_eq_true rfl⟩, Nat.le_of_ble_eq_true rfl, Nat.le_of_ble_eq_true rfl, Nat.le_of_ble_eq_true rfl⟩ dX3_handle_159 (fun H locs hw => ?_)
    refine lv_iconst (v := 1) hx hb dX3_handle_162 (by decide) ?_
    obtain ⟨rfl, rfl⟩ := cl_pair hf
    exact cr_retz C hw (by decide) dX3_handle_163
  · have hf := cl_no c9 hf
    refine lv_iconst (v := 0) hx hb dX3_handle_155 (by decide) ?_
    obtain ⟨rfl, rfl⟩ := cl_pair hf
    exact cr_retz C hw (by decide) dX3_handle_156
def f_X3_handle_135 (M : cl_M) (t0 : Nat) (t2 : Nat) : Option (Int32 × cl_M) := if (M t0 6) = 3 then f_X3_handle_152 M t2 1 (M t2 6) else f_X3_handle_152 M t2 2 (M t2 6)
set_option maxHeartbeats 4000000 in
set_option maxRecDepth 100000 in
theorem k_X3_handle_135 {p : Program} {l : Launch} {e : Env} {s : State} {m : MethodId} {args : Array Value} {below : List Frame} {meth : Method} {c : Code} {dd : cl_D} {b : Nat} (C : cl_C p l s m args meth c cX3_handle RX3 3 (some .boolean) dd b) : ∀ (M : cl_M) (t0 : Nat) (t2 : Nat) (r : Int32) (M' : cl_M), f_X3_handle_135 M t0 t2 = some (r, M') → ∀ (H : Heap) (locs : List Loc) (ls : Array Slot), cl_sh dd t0 = 3 → cl_sh dd t2 = 0 → cl_H dd b M s H locs → lv_has ls 3 [(0, .ref (b + t0)), (2, .ref (b + t2))] → W p l e { frames := 3, cells := 0, slots := 0, locals := 65 } s m args below meth c H locs 0 0 (cl_Zi below args s dd b r M') (F0 m 135 ls []) := by
  have hx := C.1
  have hb := C.2.1
  have hlt := C.2.2.2.2.2.2.2.2.2.2
  have hRr := C.2.2.2.2.2.2.2.2.2.1
  intro M t0 t2 r M' hf H locs ls ht0 ht2 hw hl
  unfold f_X3_handle_135 at hf
  refine lv_aload_n hx hb dX3_handle_135 rfl (lv_at hl 1 rfl) ?_
  refine fg_X3_218 C hw ht2 dX3_handle_136 ?_
  refine lv_aload_n hx hb dX3_handle_139 rfl (lv_at hl 0 rfl) ?_
  refine fg_X3_141 C hw ht0 dX3_handle_140 ?_
  refine lv_iconst (v := 3) hx hb dX3_handle_143 (by decide) ?_
  refine lv_icmp_ne (tgt := 151) hx hb dX3_handle_144 (by decide) (fun c8 => ?_) (fun c8 => ?_)
  · have hf := cl_no c8 hf
    refine lv_iconst (v := 2) hx hb dX3_handle_151 (by decide) ?_
    exact k_X3_handle_152 C M t2 2 (M t2 6) _ _ hf _ _ _ ht2 hw (lv_sub hl [1] rfl)
  · have hf := cl_yes c8 hf
    refine lv_iconst (v := 1) hx hb dX3_handle_147 (by decide) ?_
    refine lv_goto (tgt := 152) hx hb dX3_handle_148 (by decide) ?_
    exact k_X3_handle_152 C M t2 1 (M t2 6) _ _ hf _ _ _ ht2 hw (lv_sub hl [1] rfl)
def f_X3_handle (M : cl_M) (t0 : Nat) (t1 : Nat) (t2 : Nat) : Option (Int32 × cl_M) := if (M t0 6) = 2 then (f_X2_obstacle M t1 t2 (M (t0 + 2) 1) (M (t0 + 2) 2) (M (t0 + 2) 3)).bind (fun v2 => if v2 = 0 then (f_X0_hangUp M t2 (M (t0 + 2) 1) (M (t0 + 2) 2) (M (t0 + 2) 3)).bind (fun M5 => some (1, M5)) else some (0, M)) else if (M t0 6) = 3 then f_X3_handle_135 M t0 t2 else if (M t0 6) = 4 then f_X3_handle_135 M t0 t2 else if (M t0 6) = 5 then if (M t2 6) = 0 then (f_X0_soak M t2).bind (fun M15 => some (1, M15)) else some (0, M) else if (M t0 6) = 6 then (f_X2_canShift M t1 t2 (M (t0 + 2) 1)).bind (fun v18 => if v18 = 0 then some (0, M) else (f_X0_moveTo M t2 (M (t0 + 2) 1)).bind (fun M21 => some (1, M21))) else f_X3_handle_135 M t0 t2
set_option maxHeartbeats 4000000 in
set_option maxRecDepth 100000 in
theorem k_X3_handle {p : Program} {l : Launch} {e : Env} {s : State} {m : MethodId} {args : Array Value} {below : List Frame} {meth : Method} {c : Code} {dd : cl_D} {b : Nat} (C : cl_C p l s m args meth c cX3_handle RX3 3 (some .boolean) dd b) : ∀ (M : cl_M) (t0 : Nat) (t1 : Nat) (t2 : Nat) (r : Int32) (M' : cl_M), f_X3_handle M t0 t1 t2 = some (r, M') → ∀ (H : Heap) (locs : List Loc) (ls : Array Slot), cl_sh dd t0 = 3 → cl_sh dd t1 = 2 → cl_sh dd t2 = 0 → cl_H dd b M s H locs → lv_has ls 3 [(0, .ref (b + t0)), (1, .ref (b + t1)), (2, .ref (b + t2))] → W p l e { frames := 3, cells := 0, slots := 0, locals := 65 } s m args below meth c H locs 0 0 (cl_Zi below args s dd b r M') (F0 m 0 ls []) := by
  have hx := C.1
  have hb := C.2.1
  have hlt := C.2.2.2.2.2.2.2.2.2.2
  have hRr := C.2.2.2.2.2.2.2.2.2.1
  intro M t0 t1 t2 r M' hf H locs ls ht0 ht1 ht2 hw hl
  unfold f_X3_handle at hf
  refine lv_aload_n hx hb dX3_handle_0 rfl (lv_at hl 0 rfl) ?_
  refine fg_X3_141 C hw ht0 dX3_handle_1 ?_
  by_cases c1 : (M t0 6) = 2
  · have hf := cl_yes c1 hf
    refine lv_tableIn (tgt := 40) (off := 36) hx hb dX3_handle_4 (by rw [c1]; decide) (by rw [c1]; decide) (by rw [c1]; rfl) (by decide) ?_
    refine lv_aload_n hx hb dX3_handle_40 rfl (lv_at hl 1 rfl) ?_
    refine lv_aload_n hx hb dX3_handle_41 rfl (lv_at hl 2 rfl) ?_
    refine lv_aload_n hx hb dX3_handle_42 rfl (lv_at hl 0 rfl) ?_
    refine fg_X3_15 C hw ht0 dX3_handle_43 ?_
    refine lv_iconst (v := 1) hx hb dX3_handle_46 (by decide) ?_
    refine cr_iald C hw (sh_3_7 ht0).1 (sh_3_7 ht0).2 (by decide) (k := 1) rfl dX3_handle_47 ?_
    refine lv_aload_n hx hb dX3_handle_48 rfl (lv_at hl 0 rfl) ?_
    refine fg_X3_15 C hw ht0 dX3_handle_49 ?_
    refine lv_iconst (v := 2) hx hb dX3_handle_52 (by decide) ?_
    refine cr_iald C hw (sh_3_7 ht0).1 (sh_3_7 ht0).2 (by decide) (k := 2) rfl dX3_handle_53 ?_
    refine lv_aload_n hx hb dX3_handle_54 rfl (lv_at hl 0 rfl) ?_
    refine fg_X3_15 C hw ht0 dX3_handle_55 ?_
    refine lv_iconst (v := 3) hx hb dX3_handle_58 (by decide) ?_
    refine cr_iald C hw (sh_3_7 ht0).1 (sh_3_7 ht0).2 (by decide) (k := 3) rfl dX3_handle_59 ?_
    obtain ⟨v2, e3, hf⟩ := cl_bind_e hf
    refine cr_Vi C hw (c_X2_obstacle hlt ht1 ht2 e3) cy_X2_obstacle vy_X2_obstacle ml_X3_202 (cl_lt ht1 (by decide)) (cl_e2 ht1) rfl rfl (As := [.ref (b + t2), .int (M (t0 + 2) 1), .int (M (t0 + 2) 2), .int (M (t0 + 2) 3)]) rfl hl.1 rfl ⟨⟨Nat.le_of_ble_eq_true rfl, Nat.le_of_ble_eq_true rfl⟩, Nat.le_of_ble_eq_true rfl, Nat.le_of_ble_eq_true rfl, Nat.le_of_ble_eq_true rfl⟩ dX3_handle_60 (fun H locs hw => ?_)
    refine lv_if_eq (tgt := 68) hx hb dX3_handle_63 (by decide) (fun c4 => ?_) (fun c4 => ?_)
    · have hf := cl_yes c4 hf
      refine lv_aload_n hx hb dX3_handle_68 rfl (lv_at hl 2 rfl) ?_
      refine lv_aload_n hx hb dX3_handle_69 rfl (lv_at hl 0 rfl) ?_
      refine fg_X3_15 C hw ht0 dX3_handle_70 ?_
      refine lv_iconst (v := 1) hx hb dX3_handle_73 (by decide) ?_
      refine cr_iald C hw (sh_3_7 ht0).1 (sh_3_7 ht0).2 (by decide) (k := 1) rfl dX3_handle_74 ?_
      refine lv_aload_n hx hb dX3_handle_75 rfl (lv_at hl 0 rfl) ?_
      refine fg_X3_15 C hw ht0 dX3_handle_76 ?_
      refine lv_iconst (v := 2) hx hb dX3_handle_79 (by decide) ?_
      refine cr_iald C hw (sh_3_7 ht0).1 (sh_3_7 ht0).2 (by decide) (k := 2) rfl dX3_handle_80 ?_
      refine lv_aload_n hx hb dX3_handle_81 rfl (lv_at hl 0 rfl) ?_
      refine fg_X3_15 C hw ht0 dX3_handle_82 ?_
      refine lv_iconst (v := 3) hx hb dX3_handle_85 (by decide) ?_
      refine cr_iald C hw (sh_3_7 ht0).1 (sh_3_7 ht0).2 (by decide) (k := 3) rfl dX3_handle_86 ?_
      obtain ⟨M5, e6, hf⟩ := cl_bind_e hf
      refine cr_Vv C hw (c_X0_hangUp hlt ht2 e6) cy_X0_hangUp vy_X0_hangUp ml_X3_206 (cl_lt ht2 (by decide)) (cl_e0 ht2) rfl rfl (As := [.int (M (t0 + 2) 1), .int (M (t0 + 2) 2), .int (M (t0 + 2) 3)]) rfl hl.1 rfl ⟨⟨Nat.le_of_ble_eq_true rfl, Nat.le_of_ble_eq_true rfl⟩, Nat.le_of_ble_eq_true rfl, Nat.le_of_ble_eq_true rfl, Nat.le_of_ble_eq_true rfl⟩ dX3_handle_87 (fun H locs hw => ?_)
      refine lv_iconst (v := 1) hx hb dX3_handle_90 (by decide) ?_
      obtain ⟨rfl, rfl⟩ := cl_pair hf
      exact cr_retz C hw (by decide) dX3_handle_91
    · have hf := cl_no c4 hf
      refine lv_iconst (v := 0) hx hb dX3_handle_66 (by decide) ?_
      obtain ⟨rfl, rfl⟩ := cl_pair hf
      exact cr_retz C hw (by decide) dX3_handle_67
  have hf := cl_no c1 hf
  by_cases c7 : (M t0 6) = 3
  · have hf := cl_yes c7 hf
    refine lv_tableIn (tgt := 135) (off := 131) hx hb dX3_handle_4 (by rw [c7]; decide) (by rw [c7]; decide) (by rw [c7]; rfl) (by decide) ?_
    exact k_X3_handle_135 C M t0 t2 _ _ hf _ _ _ ht0 ht2 hw (lv_sub hl [0, 2] rfl)
  have hf := cl_no c7 hf
  by_cases c12 : (M t0 6) = 4
  · have hf := cl_yes c12 hf
    refine lv_tableIn (tgt := 135) (off := 131) hx hb dX3_handle_4 (by rw [c12]; decide) (by rw [c12]; decide) (by rw [c12]; rfl) (by decide) ?_
    exact k_X3_handle_135 C M t0 t2 _ _ hf _ _ _ ht0 ht2 hw (lv_sub hl [0, 2] rfl)
  have hf := cl_no c12 hf
  by_cases c13 : (M t0 6) = 5
  · have hf := cl_yes c13 hf
    refine lv_tableIn (tgt := 120) (off := 116) hx hb dX3_handle_4 (by rw [c13]; decide) (by rw [c13]; decide) (by rw [c13]; rfl) (by decide) ?_
    refine lv_aload_n hx hb dX3_handle_120 rfl (lv_at hl 2 rfl) ?_
    refine fg_X3_218 C hw ht2 dX3_handle_121 ?_
    refine lv_if_eq (tgt := 129) hx hb dX3_handle_124 (by decide) (fun c14 => ?_) (fun c14 => ?_)
    · have hf := cl_yes c14 hf
      refine lv_aload_n hx hb dX3_handle_129 rfl (lv_at hl 2 rfl) ?_
      obtain ⟨M15, e16, hf⟩ := cl_bind_e hf
      refine cr_Vv C hw (c_X0_soak hlt ht2 e16) cy_X0_soak vy_X0_soak ml_X3_221 (cl_lt ht2 (by decide)) (cl_e0 ht2) rfl rfl (As := []) rfl hl.1 rfl ⟨⟨Nat.le_of_ble_eq_true rfl, Nat.le_of_ble_eq_true rfl⟩, Nat.le_of_ble_eq_true rfl, Nat.le_of_ble_eq_true rfl, Nat.le_of_ble_eq_true rfl⟩ dX3_handle_130 (fun H locs hw => ?_)
      refine lv_iconst (v := 1) hx hb dX3_handle_133 (by decide) ?_
      obtain ⟨rfl, rfl⟩ := cl_pair hf
      exact cr_retz C hw (by decide) dX3_handle_134
    · have hf := cl_no c14 hf
      refine lv_iconst (v := 0) hx hb dX3_handle_127 (by decide) ?_
      obtain ⟨rfl, rfl⟩ := cl_pair hf
      exact cr_retz C hw (by decide) dX3_handle_128
  have hf := cl_no c13 hf
  by_cases c17 : (M t0 6) = 6
  · have hf := cl_yes c17 hf
    refine lv_tableIn (tgt := 92) (off := 88) hx hb dX3_handle_4 (by rw [c17]; decide) (by rw [c17]; decide) (by rw [c17]; rfl) (by decide) ?_
    refine lv_aload_n hx hb dX3_handle_92 rfl (lv_at hl 1 rfl) ?_
    refine lv_aload_n hx hb dX3_handle_93 rfl (lv_at hl 2 rfl) ?_
    refine lv_aload_n hx hb dX3_handle_94 rfl (lv_at hl 0 rfl) ?_
    refine fg_X3_15 C hw ht0 dX3_handle_95 ?_
    refine lv_iconst (v := 1) hx hb dX3_handle_98 (by decide) ?_
    refine cr_iald C hw (sh_3_7 ht0).1 (sh_3_7 ht0).2 (by decide) (k := 1) rfl dX3_handle_99 ?_
    obtain ⟨v18, e19, hf⟩ := cl_bind_e hf
    refine cr_Vi C hw (c_X2_canShift hlt ht1 ht2 e19) cy_X2_canShift vy_X2_canShift ml_X3_211 (cl_lt ht1 (by decide)) (cl_e2 ht1) rfl rfl (As := [.ref (b + t2), .int (M (t0 + 2) 1)]) rfl hl.1 rfl ⟨⟨Nat.le_of_ble_eq_true rfl, Nat.le_of_ble_eq_true rfl⟩, Nat.le_of_ble_eq_true rfl, Nat.le_of_ble_eq_true rfl, Nat.le_of_ble_eq_true rfl⟩ dX3_handle_100 (fun H locs hw => ?_)
    refine lv_if_ne (tgt := 108) hx hb dX3_handle_103 (by decide) (fun c20 => ?_) (fun c20 => ?_)
    · have hf := cl_no c20 hf
      refine lv_aload_n hx hb dX3_handle_108 rfl (lv_at hl 2 rfl) ?_
      refine lv_aload_n hx hb dX3_handle_109 rfl (lv_at hl 0 rfl) ?_
      refine fg_X3_15 C hw ht0 dX3_handle_110 ?_
      refine lv_iconst (v := 1) hx hb dX3_handle_113 (by decide) ?_
      refine cr_iald C hw (sh_3_7 ht0).1 (sh_3_7 ht0).2 (by decide) (k := 1) rfl dX3_handle_114 ?_
      obtain ⟨M21, e22, hf⟩ := cl_bind_e hf
      refine cr_Vv C hw (c_X0_moveTo hlt ht2 e22) cy_X0_moveTo vy_X0_moveTo ml_X3_215 (cl_lt ht2 (by decide)) (cl_e0 ht2) rfl rfl (As := [.int (M (t0 + 2) 1)]) rfl hl.1 rfl ⟨⟨Nat.le_of_ble_eq_true rfl, Nat.le_of_ble_eq_true rfl⟩, Nat.le_of_ble_eq_true rfl, Nat.le_of_ble_eq_true rfl, Nat.le_of_ble_eq_true rfl⟩ dX3_handle_115 (fun H locs hw => ?_)
      refine lv_iconst (v := 1) hx hb dX3_handle_118 (by decide) ?_
      obtain ⟨rfl, rfl⟩ := cl_pair hf
      exact cr_retz C hw (by decide) dX3_handle_119
    · have hf := cl_yes c20 hf
      refine lv_iconst (v := 0) hx hb dX3_handle_106 (by decide) ?_
      obtain ⟨rfl, rfl⟩ := cl_pair hf
      exact cr_retz C hw (by decide) dX3_handle_107
  have hf := cl_no c17 hf
  have qc1 := lv_neT c1 (a := 2) (by decide)
  have qc7 := lv_neT c7 (a := 3) (by decide)
  have qc12 := lv_neT c12 (a := 4) (by decide)
  have qc13 := lv_neT c13 (a := 5) (by decide)
  have qc17 := lv_neT c17 (a := 6) (by decide)
  refine lv_tableOut (tgt := 135) hx hb dX3_handle_4 (by omega) (by decide) ?_
  exact k_X3_handle_135 C M t0 t2 _ _ hf _ _ _ ht0 ht2 hw (lv_sub hl [0, 2] rfl)
set_option maxRecDepth 100000 in
theorem c_X3_handle {l : Launch} {dd : cl_D} {b : Nat} (hlt : l.stackTraces = false) {M : cl_M} {t0 : Nat} {t1 : Nat} {t2 : Nat}  {r : Int32} {M' : cl_M} (ht0 : cl_sh dd t0 = 3) (ht1 : cl_sh dd t1 = 2) (ht2 : cl_sh dd t2 = 0) (h : f_X3_handle M t0 t1 t2 = some (r, M')) : cl_Mi l dd b yX3_handle cX3_handle 3 (some .boolean) 3 65 [.ref (b + t0), .ref (b + t1), .ref (b + t2)] M r M' :=
  cl_of hlt (by decide) (Nat.le_of_ble_eq_true rfl) (fun p e s m below meth c ls C hw hl => k_X3_handle C M t0 t1 t2 r M' h _ _ _ ht0 ht1 ht2 hw (lv_sub hl [0, 1, 2] rfl))
theorem cy_X3_handle : cl_cy yX3_handle cX3_handle 3 (some .boolean) 2 := ⟨in_ClothesLine_TextReader, cd_X3_handle, by decide +kernel, by decide +kernel, by decide +kernel⟩
theorem vy_X3_handle : cl_vy yX3_handle := ⟨im_X3_handle, se_X3_handle⟩
def f_X3_execute_173 (M : cl_M) (t0 : Nat) (t1 : Nat) : Option (Int32 × cl_M) := if cl_inb (M (t0 + 2) 0) 10 = true then cl_b2 (f_X3_handle M t0 t1 ((t1 + 8) + 1 + (M (t0 + 2) 0).toNatClampNeg)) (fun v6 M7 => if cl_bz v6 = true then some (v6, M7) else none) else none
set_option maxHeartbeats 4000000 in
set_option maxRecDepth 100000 in
theorem k_X3_execute_173 {p : Program} {l : Launch} {e : Env} {s : State} {m : MethodId} {args : Array Value} {below : List Frame} {meth : Method} {c : Code} {dd : cl_D} {b : Nat} (C : cl_C p l s m args meth c cX3_execute RX3 2 (some .boolean) dd b) : ∀ (M : cl_M) (t0 : Nat) (t1 : Nat) (r : Int32) (M' : cl_M), f_X3_execute_173 M t0 t1 = some (r, M') → ∀ (H : Heap) (locs : List Loc) (ls : Array Slot), cl_sh dd t0 = 3 → cl_sh dd t1 = 2 → cl_H dd b M s H locs → lv_has ls 2 [(0, .ref (b + t0)), (1, .ref (b + t1))] → W p l e { frames := 4, cells := 0, slots := 0, locals := 96 } s m args below meth c H locs 0 0 (cl_Zi below args s dd b r M') (F0 m 173 ls []) := by
  have hx := C.1
  have hb := C.2.1
  have hlt := C.2.2.2.2.2.2.2.2.2.2
  have hRr := C.2.2.2.2.2.2.2.2.2.1
  intro M t0 t1 r M' hf H locs ls ht0 ht1 hw hl
  unfold f_X3_execute_173 at hf
  refine lv_aload_n hx hb dX3_execute_173 rfl (lv_at hl 0 rfl) ?_
  refine lv_aload_n hx hb dX3_execute_174 rfl (lv_at hl 1 rfl) ?_
  refine lv_aload_n hx hb dX3_execute_175 rfl (lv_at hl 1 rfl) ?_
  refine fg_X3_194 C hw ht1 dX3_execute_176 ?_
  refine lv_aload_n hx hb dX3_execute_179 rfl (lv_at hl 0 rfl) ?_
  refine fg_X3_15 C hw ht0 dX3_execute_180 ?_
  refine lv_iconst (v := 0) hx hb dX3_execute_183 (by decide) ?_
  refine cr_iald C hw (sh_3_7 ht0).1 (sh_3_7 ht0).2 (by decide) (k := 0) rfl dX3_execute_184 ?_
  obtain ⟨q5, hf⟩ := cl_grd hf
  refine cr_ald9 C hw (sh_2_5 ht1).1 q5 (k := (M (t0 + 2) 0).toNatClampNeg) rfl dX3_execute_185 ?_
  obtain ⟨v6, M7, e8, hf⟩ := cl_b2_e hf
  refine cr_Vi C hw (c_X3_handle hlt ht0 ht1 (sh_el_9 (sh_2_5 ht1).1 (cl_inb_lt q5)) e8) cy_X3_handle vy_X3_handle ml_X3_198 (cl_lt ht0 (by decide)) (cl_e3 ht0) rfl rfl (As := [.ref (b + t1), .ref (b + ((t1 + 8) + 1 + (M (t0 + 2) 0).toNatClampNeg))]) rfl hl.1 rfl ⟨⟨Nat.le_of_ble_eq_true rfl, Nat.le_of_ble_eq_true rfl⟩, Nat.le_of_ble_eq_true rfl, Nat.le_of_ble_eq_true rfl, Nat.le_of_ble_eq_true rfl⟩ dX3_execute_186 (fun H locs hw => ?_)
  obtain ⟨q9, hf⟩ := cl_grd hf
  obtain ⟨rfl, rfl⟩ := cl_pair hf
  exact cr_retz C hw q9 dX3_execute_189
def f_X3_execute (M : cl_M) (t0 : Nat) (t1 : Nat) : Option (Int32 × cl_M) := if (M t0 6) = 1 then (f_X2_append M t1 (M (t0 + 2) 0) (M (t0 + 2) 1) (M (t0 + 2) 2) (M (t0 + 2) 3)).bind (fun M2 => some (1, M2)) else if (M t0 6) = 2 then f_X3_execute_173 M t0 t1 else if (M t0 6) = 3 then f_X3_execute_173 M t0 t1 else if (M t0 6) = 4 then f_X3_execute_173 M t0 t1 else if (M t0 6) = 5 then f_X3_execute_173 M t0 t1 else if (M t0 6) = 6 then f_X3_execute_173 M t0 t1 else if (M t0 6) = 7 then (f_X4_appendShower M (t1 + 1) (M (t0 + 2) 0) (M (t0 + 2) 1) (M (t0 + 2) 2)).bind (fun M15 => some (1, M15)) else if (M t0 6) = 8 then (f_X4_appendSmoke M (t1 + 1) (M (t0 + 2) 0) (M (t0 + 2) 1)).bind (fun M18 => some (1, M18)) else if (M t0 6) = 9 then if cl_inb (M (t0 + 2) 0) 8 = true then cl_let (cl_ms M ((t1 + 1) + 1) (M (t0 + 2) 0).toNatClampNeg (M (t0 + 2) 1)) (fun M22 => some (1, M22)) else none else if (M t0 6) = 10 then cl_b2 (f_X2_letPass M t1 (M (t0 + 2) 0)) (fun v24 M25 => some (1, M25)) else f_X3_execute_173 M t0 t1
set_option maxHeartbeats 4000000 in
set_option maxRecDepth 100000 in
theorem k_X3_execute {p : Program} {l : Launch} {e : Env} {s : State} {m : MethodId} {args : Array Value} {below : List Frame} {meth : Method} {c : Code} {dd : cl_D} {b : Nat} (C : cl_C p l s m args meth c cX3_execute RX3 2 (some .boolean) dd b) : ∀ (M : cl_M) (t0 : Nat) (t1 : Nat) (r : Int32) (M' : cl_M), f_X3_execute M t0 t1 = some (r, M') → ∀ (H : Heap) (locs : List Loc) (ls : Array Slot), cl_sh dd t0 = 3 → cl_sh dd t1 = 2 → cl_H dd b M s H locs → lv_has ls 2 [(0, .ref (b + t0)), (1, .ref (b + t1))] → W p l e { frames := 4, cells := 0, slots := 0, locals := 96 } s m args below meth c H locs 0 0 (cl_Zi below args s dd b r M') (F0 m 0 ls []) := by
  have hx := C.1
  have hb := C.2.1
  have hlt := C.2.2.2.2.2.2.2.2.2.2
  have hRr := C.2.2.2.2.2.2.2.2.2.1
  intro M t0 t1 r M' hf H locs ls ht0 ht1 hw hl
  unfold f_X3_execute at hf
  refine lv_aload_n hx hb dX3_execute_0 rfl (lv_at hl 0 rfl) ?_
  refine fg_X3_141 C hw ht0 dX3_execute_1 ?_
  by_cases c1 : (M t0 6) = 1
  · have hf := cl_yes c1 hf
    refine lv_tableIn (tgt := 60) (off := 56) hx hb dX3_execute_4 (by rw [c1]; decide) (by rw [c1]; decide) (by rw [c1]; rfl) (by decide) ?_
    refine lv_aload_n hx hb dX3_execute_60 rfl (lv_at hl 1 rfl) ?_
    refine lv_aload_n hx hb dX3_execute_61 rfl (lv_at hl 0 rfl) ?_
    refine fg_X3_15 C hw ht0 dX3_execute_62 ?_
    refine lv_iconst (v := 0) hx hb dX3_execute_65 (by decide) ?_
    refine cr_iald C hw (sh_3_7 ht0).1 (sh_3_7 ht0).2 (by decide) (k := 0) rfl dX3_execute_66 ?_
    refine lv_aload_n hx hb dX3_execute_67 rfl (lv_at hl 0 rfl) ?_
    refine fg_X3_15 C hw ht0 dX3_execute_68 ?_
    refine lv_iconst (v := 1) hx hb dX3_execute_71 (by decide) ?_
    refine cr_iald C hw (sh_3_7 ht0).1 (sh_3_7 ht0).2 (by decide) (k := 1) rfl dX3_execute_72 ?_
    refine lv_aload_n hx hb dX3_execute_73 rfl (lv_at hl 0 rfl) ?_
    refine fg_X3_15 C hw ht0 dX3_execute_74 ?_
    refine lv_iconst (v := 2) hx hb dX3_execute_77 (by decide) ?_
    refine cr_iald C hw (sh_3_7 ht0).1 (sh_3_7 ht0).2 (by decide) (k := 2) rfl dX3_execute_78 ?_
    refine lv_aload_n hx hb dX3_execute_79 rfl (lv_at hl 0 rfl) ?_
    refine fg_X3_15 C hw ht0 dX3_execute_80 ?_
    refine lv_iconst (v := 3) hx hb dX3_execute_83 (by decide) ?_
    refine cr_iald C hw (sh_3_7 ht0).1 (sh_3_7 ht0).2 (by decide) (k := 3) rfl dX3_execute_84 ?_
    obtain ⟨M2, e3, hf⟩ := cl_bind_e hf
    refine cr_Vv C hw (c_X2_append hlt ht1 e3) cy_X2_append vy_X2_append ml_X3_177 (cl_lt ht1 (by decide)) (cl_e2 ht1) rfl rfl (As := [.int (M (t0 + 2) 0), .int (M (t0 + 2) 1), .int (M (t0 + 2) 2), .int (M (t0 + 2) 3)]) rfl hl.1 rfl ⟨⟨Nat.le_of_ble_eq_true rfl, Nat.le_of_ble_eq_true rfl⟩, Nat.le_of_ble_eq_true rfl, Nat.le_of_ble_eq_true rfl, Nat.le_of_ble_eq_true rfl⟩ dX3_execute_85 (fun H locs hw => ?_)
    refine lv_iconst (v := 1) hx hb dX3_execute_88 (by decide) ?_
    obtain ⟨rfl, rfl⟩ := cl_pair hf
    exact cr_retz C hw (by decide) dX3_execute_89
  have hf := cl_no c1 hf
  by_cases c4 : (M t0 6) = 2
  · have hf := cl_yes c4 hf
    refine lv_tableIn (tgt := 173) (off := 169) hx hb dX3_execute_4 (by rw [c4]; decide) (by rw [c4]; decide) (by rw [c4]; rfl) (by decide) ?_
    exact k_X3_execute_173 C M t0 t1 _ _ hf _ _ _ ht0 ht1 hw (lv_sub hl [0, 1] rfl)
  have hf := cl_no c4 hf
  by_cases c10 : (M t0 6) = 3
  · have hf := cl_yes c10 hf
    refine lv_tableIn (tgt := 173) (off := 169) hx hb dX3_execute_4 (by rw [c10]; decide) (by rw [c10]; decide) (by rw [c10]; rfl) (by decide) ?_
    exact k_X3_execute_173 C M t0 t1 _ _ hf _ _ _ ht0 ht1 hw (lv_sub hl [0, 1] rfl)
  have hf := cl_no c10 hf
  by_cases c11 : (M t0 6) = 4
  · have hf := cl_yes c11 hf
    refine lv_tableIn (tgt := 173) (off := 169) hx hb dX3_execute_4 (by rw [c11]; decide) (by rw [c11]; decide) (by rw [c11]; rfl) (by decide) ?_
    exact k_X3_execute_173 C M t0 t1 _ _ hf _ _ _ ht0 ht1 hw (lv_sub hl [0, 1] rfl)
  have hf := cl_no c11 hf
  by_cases c12 : (M t0 6) = 5
  · have hf := cl_yes c12 hf
    refine lv_tableIn (tgt := 173) (off := 169) hx hb dX3_execute_4 (by rw [c12]; decide) (by rw [c12]; decide) (by rw [c12]; rfl) (by decide) ?_
    exact k_X3_execute_173 C M t0 t1 _ _ hf _ _ _ ht0 ht1 hw (lv_sub hl [0, 1] rfl)
  have hf := cl_no c12 hf
  by_cases c13 : (M t0 6) = 6
  · have hf := cl_yes c13 hf
    refine lv_tableIn (tgt := 173) (off := 169) hx hb dX3_execute_4 (by rw [c13]; decide) (by rw [c13]; decide) (by rw [c13]; rfl) (by decide) ?_
    exact k_X3_execute_173 C M t0 t1 _ _ hf _ _ _ ht0 ht1 hw (lv_sub hl [0, 1] rfl)
  have hf := cl_no c13 hf
  by_cases c14 : (M t0 6) = 7
  · have hf := cl_yes c14 hf
    refine lv_tableIn (tgt := 90) (off := 86) hx hb dX3_execute_4 (by rw [c14]; decide) (by rw [c14]; decide) (by rw [c14]; rfl) (by decide) ?_
    refine lv_aload_n hx hb dX3_execute_90 rfl (lv_at hl 1 rfl) ?_
    refine fg_X3_76 C hw ht1 dX3_execute_91 ?_
    refine lv_aload_n hx hb dX3_execute_94 rfl (lv_at hl 0 rfl) ?_
    refine fg_X3_15 C hw ht0 dX3_execute_95 ?_
    refine lv_iconst (v := 0) hx hb dX3_execute_98 (by decide) ?_
    refine cr_iald C hw (sh_3_7 ht0).1 (sh_3_7 ht0).2 (by decide) (k := 0) rfl dX3_execute_99 ?_
    refine lv_aload_n hx hb dX3_execute_100 rfl (lv_at hl 0 rfl) ?_
    refine fg_X3_15 C hw ht0 dX3_execute_101 ?_
    refine lv_iconst (v := 1) hx hb dX3_execute_104 (by decide) ?_
    refine cr_iald C hw (sh_3_7 ht0).1 (sh_3_7 ht0).2 (by decide) (k := 1) rfl dX3_execute_105 ?_
    refine lv_aload_n hx hb dX3_execute_106 rfl (lv_at hl 0 rfl) ?_
    refine fg_X3_15 C hw ht0 dX3_execute_107 ?_
    refine lv_iconst (v := 2) hx hb dX3_execute_110 (by decide) ?_
    refine cr_iald C hw (sh_3_7 ht0).1 (sh_3_7 ht0).2 (by decide) (k := 2) rfl dX3_execute_111 ?_
    obtain ⟨M15, e16, hf⟩ := cl_bind_e hf
    refine cr_Vv C hw (c_X4_appendShower hlt (sh_2_4 ht1).1 e16) cy_X4_appendShower vy_X4_appendShower ml_X3_181 (cl_lt (sh_2_4 ht1).1 (by decide)) (cl_e4 (sh_2_4 ht1).1) rfl rfl (As := [.int (M (t0 + 2) 0), .int (M (t0 + 2) 1), .int (M (t0 + 2) 2)]) rfl hl.1 rfl ⟨⟨Nat.le_of_ble_eq_true rfl, Nat.le_of_ble_eq_true rfl⟩, Nat.le_of_ble_eq_true rfl, Nat.le_of_ble_eq_true rfl, Nat.le_of_ble_eq_true rfl⟩ dX3_execute_112 (fun H locs hw => ?_)
    refine lv_iconst (v := 1) hx hb dX3_execute_115 (by decide) ?_
    obtain ⟨rfl, rfl⟩ := cl_pair hf
    exact cr_retz C hw (by decide) dX3_execute_116
  have hf := cl_no c14 hf
  by_cases c17 : (M t0 6) = 8
  · have hf := cl_yes c17 hf
    refine lv_tableIn (tgt := 117) (off := 113) hx hb dX3_execute_4 (by rw [c17]; decide) (by rw [c17]; decide) (by rw [c17]; rfl) (by decide) ?_
    refine lv_aload_n hx hb dX3_execute_117 rfl (lv_at hl 1 rfl) ?_
    refine fg_X3_76 C hw ht1 dX3_execute_118 ?_
    refine lv_aload_n hx hb dX3_execute_121 rfl (lv_at hl 0 rfl) ?_
    refine fg_X3_15 C hw ht0 dX3_execute_122 ?_
    refine lv_iconst (v := 0) hx hb dX3_execute_125 (by decide) ?_
    refine cr_iald C hw (sh_3_7 ht0).1 (sh_3_7 ht0).2 (by decide) (k := 0) rfl dX3_execute_126 ?_
    refine lv_aload_n hx hb dX3_execute_127 rfl (lv_at hl 0 rfl) ?_
    refine fg_X3_15 C hw ht0 dX3_execute_128 ?_
    refine lv_iconst (v := 1) hx hb dX3_execute_131 (by decide) ?_
    refine cr_iald C hw (sh_3_7 ht0).1 (sh_3_7 ht0).2 (by decide) (k := 1) rfl dX3_execute_132 ?_
    obtain ⟨M18, e19, hf⟩ := cl_bind_e hf
    refine cr_Vv C hw (c_X4_appendSmoke hlt (sh_2_4 ht1).1 e19) cy_X4_appendSmoke vy_X4_appendSmoke ml_X3_184 (cl_lt (sh_2_4 ht1).1 (by decide)) (cl_e4 (sh_2_4 ht1).1) rfl rfl (As := [.int (M (t0 + 2) 0), .int (M (t0 + 2) 1)]) rfl hl.1 rfl ⟨⟨Nat.le_of_ble_eq_true rfl, Nat.le_of_ble_eq_true rfl⟩, Nat.le_of_ble_eq_true rfl, Nat.le_of_ble_eq_true rfl, Nat.le_of_ble_eq_true rfl⟩ dX3_execute_133 (fun H locs hw => ?_)
    refine lv_iconst (v := 1) hx hb dX3_execute_136 (by decide) ?_
    obtain ⟨rfl, rfl⟩ := cl_pair hf
    exact cr_retz C hw (by decide) dX3_execute_137
  have hf := cl_no c17 hf
  by_cases c20 : (M t0 6) = 9
  · have hf := cl_yes c20 hf
    refine lv_tableIn (tgt := 138) (off := 134) hx hb dX3_execute_4 (by rw [c20]; decide) (by rw [c20]; decide) (by rw [c20]; rfl) (by decide) ?_
    refine lv_aload_n hx hb dX3_execute_138 rfl (lv_at hl 1 rfl) ?_
    refine fg_X3_76 C hw ht1 dX3_execute_139 ?_
    refine fg_X3_188 C hw (sh_2_4 ht1).1 dX3_execute_142 ?_
    refine lv_aload_n hx hb dX3_execute_145 rfl (lv_at hl 0 rfl) ?_
    refine fg_X3_15 C hw ht0 dX3_execute_146 ?_
    refine lv_iconst (v := 0) hx hb dX3_execute_149 (by decide) ?_
    refine cr_iald C hw (sh_3_7 ht0).1 (sh_3_7 ht0).2 (by decide) (k := 0) rfl dX3_execute_150 ?_
    refine lv_aload_n hx hb dX3_execute_151 rfl (lv_at hl 0 rfl) ?_
    refine fg_X3_15 C hw ht0 dX3_execute_152 ?_
    refine lv_iconst (v := 1) hx hb dX3_execute_155 (by decide) ?_
    refine cr_iald C hw (sh_3_7 ht0).1 (sh_3_7 ht0).2 (by decide) (k := 1) rfl dX3_execute_156 ?_
    obtain ⟨q21, hf⟩ := cl_grd hf
    obtain ⟨M22, eM22, hf⟩ := cl_let_e hf
    refine cr_iast C hw (sh_4_1 (sh_2_4 ht1).1).1 (sh_4_1 (sh_2_4 ht1).1).2 q21 (k := (M (t0 + 2) 0).toNatClampNeg) rfl eM22 dX3_execute_157 (fun H locs hw => ?_)
    refine lv_iconst (v := 1) hx hb dX3_execute_158 (by decide) ?_
    obtain ⟨rfl, rfl⟩ := cl_pair hf
    exact cr_retz C hw (by decide) dX3_execute_159
  have hf := cl_no c20 hf
  by_cases c23 : (M t0 6) = 10
  · have hf := cl_yes c23 hf
    refine lv_tableIn (tgt := 160) (off := 156) hx hb dX3_execute_4 (by rw [c23]; decide) (by rw [c23]; decide) (by rw [c23]; rfl) (by decide) ?_
    refine lv_aload_n hx hb dX3_execute_160 rfl (lv_at hl 1 rfl) ?_
    refine lv_aload_n hx hb dX3_execute_161 rfl (lv_at hl 0 rfl) ?_
    refine fg_X3_15 C hw ht0 dX3_execute_162 ?_
    refine lv_iconst (v := 0) hx hb dX3_execute_165 (by decide) ?_
    refine cr_iald C hw (sh_3_7 ht0).1 (sh_3_7 ht0).2 (by decide) (k := 0) rfl dX3_execute_166 ?_
    obtain ⟨v24, M25, e26, hf⟩ := cl_b2_e hf
    refine cr_Vi C hw (c_X2_letPass hlt ht1 e26) cy_X2_letPass vy_X2_letPass ml_X3_191 (cl_lt ht1 (by decide)) (cl_e2 ht1) rfl rfl (As := [.int (M (t0 + 2) 0)]) rfl hl.1 rfl ⟨⟨Nat.le_of_ble_eq_true rfl, Nat.le_of_ble_eq_true rfl⟩, Nat.le_of_ble_eq_true rfl, Nat.le_of_ble_eq_true rfl, Nat.le_of_ble_eq_true rfl⟩ dX3_execute_167 (fun H locs hw => ?_)
    refine lv_pop hx hb dX3_execute_170 rfl ?_
    refine lv_iconst (v := 1) hx hb dX3_execute_171 (by decide) ?_
    obtain ⟨rfl, rfl⟩ := cl_pair hf
    exact cr_retz C hw (by decide) dX3_execute_172
  have hf := cl_no c23 hf
  have qc1 := lv_neT c1 (a := 1) (by decide)
  have qc4 := lv_neT c4 (a := 2) (by decide)
  have qc10 := lv_neT c10 (a := 3) (by decide)
  have qc11 := lv_neT c11 (a := 4) (by decide)
  have qc12 := lv_neT c12 (a := 5) (by decide)
  have qc13 := lv_neT c13 (a := 6) (by decide)
  have qc14 := lv_neT c14 (a := 7) (by decide)
  have qc17 := lv_neT c17 (a := 8) (by decide)
  have qc20 := lv_neT c20 (a := 9) (by decide)
  have qc23 := lv_neT c23 (a := 10) (by decide)
  refine lv_tableOut (tgt := 173) hx hb dX3_execute_4 (by omega) (by decide) ?_
  exact k_X3_execute_173 C M t0 t1 _ _ hf _ _ _ ht0 ht1 hw (lv_sub hl [0, 1] rfl)
set_option maxRecDepth 100000 in
theorem c_X3_execute {l : Launch} {dd : cl_D} {b : Nat} (hlt : l.stackTraces = false) {M : cl_M} {t0 : Nat} {t1 : Nat}  {r : Int32} {M' : cl_M} (ht0 : cl_sh dd t0 = 3) (ht1 : cl_sh dd t1 = 2) (h : f_X3_execute M t0 t1 = some (r, M')) : cl_Mi l dd b yX3_execute cX3_execute 2 (some .boolean) 4 96 [.ref (b + t0), .ref (b + t1)] M r M' :=
  cl_of hlt (by decide) (Nat.le_of_ble_eq_true rfl) (fun p e s m below meth c ls C hw hl => k_X3_execute C M t0 t1 r M' h _ _ _ ht0 ht1 hw (lv_sub hl [0, 1] rfl))
theorem cy_X3_execute : cl_cy yX3_execute cX3_execute 2 (some .boolean) 1 := ⟨in_ClothesLine_TextReader, cd_X3_execute, by decide +kernel, by decide +kernel, by decide +kernel⟩
theorem vy_X3_execute : cl_vy yX3_execute := ⟨im_X3_execute, se_X3_execute⟩
def f_X3_readCommands_2 : Nat → cl_M → Nat → Nat → Int32 → Option (Int32 × cl_M)
  | 0, _, _, _, _ => none
  | k + 1, M, t0, t1, a2 => if 40 < a2 then some ((-1), M) else (f_X3_advance M t0).bind (fun M2 => if (M2 t0 3) = 0 then some (a2, M2) else cl_b2 (f_X3_isCommand M2 t0 t1 a2) (fun v5 M6 => if v5 = 0 then some ((-1), M6) else cl_b2 (f_X3_readArguments M6 t0 t1) (fun v9 M10 => if v9 = 0 then some ((-1), M10) else cl_b2 (f_X3_readSemicolon M10 t0) (fun v13 M14 => if v13 = 0 then some ((-1), M14) else cl_b2 (f_X3_execute M14 t0 t1) (fun v17 M18 => if v17 = 0 then cl_b2 (f_X3_fail M18 t0 3) (fun v22 M23 => some ((-1), M23)) else cl_let (a2 + 1) (fun v21 => f_X3_readCommands_2 k M18 t0 t1 v21))))))
set_option maxHeartbeats 4000000 in
set_option maxRecDepth 100000 in
theorem k_X3_readCommands_2 {p : Program} {l : Launch} {e : Env} {s : State} {m : MethodId} {args : Array Value} {below : List Frame} {meth : Method} {c : Code} {dd : cl_D} {b : Nat} (C : cl_C p l s m args meth c cX3_readCommands RX3 3 (some .int) dd b) : ∀ (k : Nat), ∀ (M : cl_M) (t0 : Nat) (t1 : Nat) (a2 : Int32) (r : Int32) (M' : cl_M), f_X3_readCommands_2 k M t0 t1 a2 = some (r, M') → ∀ (H : Heap) (locs : List Loc) (ls : Array Slot), cl_sh dd t0 = 3 → cl_sh dd t1 = 2 → cl_H dd b M s H locs → lv_has ls 3 [(0, .ref (b + t0)), (1, .ref (b + t1)), (2, .int a2)] → W p l e { frames := 7, cells := 0, slots := 0, locals := 149 } s m args below meth c H locs 0 0 (cl_Zi below args s dd b r M') (F0 m 2 ls []) := by
  have hx := C.1
  have hb := C.2.1
  have hlt := C.2.2.2.2.2.2.2.2.2.2
  have hRr := C.2.2.2.2.2.2.2.2.2.1
  intro k
  induction k with
  | zero =>
    intro M t0 t1 a2 r M' hf H locs ls ht0 ht1 hw hl
    rw [f_X3_readCommands_2] at hf
    cases hf
  | succ k ih =>
    intro M t0 t1 a2 r M' hf H locs ls ht0 ht1 hw hl
    rw [f_X3_readCommands_2] at hf
    refine lv_iload_n hx hb dX3_readCommands_2 rfl (lv_at hl 2 rfl) ?_
    refine lv_bipush (v := 40) hx hb dX3_readCommands_3 (by decide) ?_
    refine lv_icmp_gt (tgt := 69) hx hb dX3_readCommands_5 (by decide) (fun c1 => ?_) (fun c1 => ?_)
    · have hf := cl_yes c1 hf
      refine lv_iconst (v := (-1)) hx hb dX3_readCommands_69 (by decide) ?_
      obtain ⟨rfl, rfl⟩ := cl_pair hf
      exact cr_reti C hw dX3_readCommands_70
    · have hf := cl_no c1 hf
      refine lv_aload_n hx hb dX3_readCommands_8 rfl (lv_at hl 0 rfl) ?_
      obtain ⟨M2, e3, hf⟩ := cl_bind_e hf
      refine cr_Vv C hw (c_X3_advance hlt ht0 e3) cy_X3_advance vy_X3_advance ml_X3_84 (cl_lt ht0 (by decide)) (cl_e3 ht0) rfl rfl (As := []) rfl hl.1 rfl ⟨⟨Nat.le_of_ble_eq_true rfl, Nat.le_of_ble_eq_true rfl⟩, Nat.le_of_ble_eq_true rfl, Nat.le_of_ble_eq_true rfl, Nat.le_of_ble_eq_true rfl⟩ dX3_readCommands_9 (fun H locs hw => ?_)
      refine lv_aload_n hx hb dX3_readCommands_12 rfl (lv_at hl 0 rfl) ?_
      refine fg_X3_87 C hw ht0 dX3_readCommands_13 ?_
      refine lv_if_ne (tgt := 21) hx hb dX3_readCommands_16 (by decide) (fun c4 => ?_) (fun c4 => ?_)
      · have hf := cl_no c4 hf
        refine lv_aload_n hx hb dX3_readCommands_21 rfl (lv_at hl 0 rfl) ?_
        refine lv_aload_n hx hb dX3_readCommands_22 rfl (lv_at hl 1 rfl) ?_
        refine lv_iload_n hx hb dX3_readCommands_23 rfl (lv_at hl 2 rfl) ?_
        obtain ⟨v5, M6, e7, hf⟩ := cl_b2_e hf
        refine cr_Vi C hw (c_X3_isCommand hlt ht0 ht1 e7) cy_X3_isCommand vy_X3_isCommand ml_X3_90 (cl_lt ht0 (by decide)) (cl_e3 ht0) rfl rfl (As := [.ref (b + t1), .int a2]) rfl hl.1 rfl ⟨⟨Nat.le_of_ble_eq_true rfl, Nat.le_of_ble_eq_true rfl⟩, Nat.le_of_ble_eq_true rfl, Nat.le_of_ble_eq_true rfl, Nat.le_of_ble_eq_true rfl⟩ dX3_readCommands_24 (fun H locs hw => ?_)
        refine lv_if_eq (tgt := 45) hx hb dX3_readCommands_27 (by decide) (fun c8 => ?_) (fun c8 => ?_)
        · have hf := cl_yes c8 hf
          refine lv_iconst (v := (-1)) hx hb dX3_readCommands_45 (by decide) ?_
          obtain ⟨rfl, rfl⟩ := cl_pair hf
          exact cr_reti C hw dX3_readCommands_46
        · have hf := cl_no c8 hf
          refine lv_aload_n hx hb dX3_readCommands_30 rfl (lv_at hl 0 rfl) ?_
          refine lv_aload_n hx hb dX3_readCommands_31 rfl (lv_at hl 1 rfl) ?_
          obtain ⟨v9, M10, e11, hf⟩ := cl_b2_e hf
          refine cr_Vi C hw (c_X3_readArguments hlt ht0 ht1 e11) cy_X3_readArguments vy_X3_readArguments ml_X3_94 (cl_lt ht0 (by decide)) (cl_e3 ht0) rfl rfl (As := [.ref (b + t1)]) rfl hl.1 rfl ⟨⟨Nat.le_of_ble_eq_true rfl, Nat.le_of_ble_eq_true rfl⟩, Nat.le_of_ble_eq_true rfl, Nat.le_of_ble_eq_true rfl, Nat.le_of_ble_eq_true rfl⟩ dX3_readCommands_32 (fun H locs hw => ?_)
          refine lv_if_eq (tgt := 45) hx hb dX3_readCommands_35 (by decide) (fun c12 => ?_) (fun c12 => ?_)
          · have hf := cl_yes c12 hf
            refine lv_iconst (v := (-1)) hx hb dX3_readCommands_45 (by decide) ?_
            obtain ⟨rfl, rfl⟩ := cl_pair hf
            exact cr_reti C hw dX3_readCommands_46
          · have hf := cl_no c12 hf
            refine lv_aload_n hx hb dX3_readCommands_38 rfl (lv_at hl 0 rfl) ?_
            obtain ⟨v13, M14, e15, hf⟩ := cl_b2_e hf
            refine cr_Vi C hw (c_X3_readSemicolon hlt ht0 e15) cy_X3_readSemicolon vy_X3_readSemicolon ml_X3_64 (cl_lt ht0 (by decide)) (cl_e3 ht0) rfl rfl (As := []) rfl hl.1 rfl ⟨⟨Nat.le_of_ble_eq_true rfl, Nat.le_of_ble_eq_true rfl⟩, Nat.le_of_ble_eq_true rfl, Nat.le_of_ble_eq_true rfl, Nat.le_of_ble_eq_true rfl⟩ dX3_readCommands_39 (fun H locs hw => ?_)
            refine lv_if_ne (tgt := 47) hx hb dX3_readCommands_42 (by decide) (fun c16 => ?_) (fun c16 => ?_)
            · have hf := cl_no c16 hf
              refine lv_aload_n hx hb dX3_readCommands_47 rfl (lv_at hl 0 rfl) ?_
              refine lv_aload_n hx hb dX3_readCommands_48 rfl (lv_at hl 1 rfl) ?_
              obtain ⟨v17, M18, e19, hf⟩ := cl_b2_e hf
              refine cr_Vi C hw (c_X3_execute hlt ht0 ht1 e19) cy_X3_execute vy_X3_execute ml_X3_98 (cl_lt ht0 (by decide)) (cl_e3 ht0) rfl rfl (As := [.ref (b + t1)]) rfl hl.1 rfl ⟨⟨Nat.le_of_ble_eq_true rfl, Nat.le_of_ble_eq_true rfl⟩, Nat.le_of_ble_eq_true rfl, Nat.le_of_ble_eq_true rfl, Nat.le_of_ble_eq_true rfl⟩ dX3_readCommands_49 (fun H locs hw => ?_)
              refine lv_if_ne (tgt := 63) hx hb dX3_readCommands_52 (by decide) (fun c20 => ?_) (fun c20 => ?_)
              · have hf := cl_no c20 hf
                obtain ⟨v21, ev21, hf⟩ := cl_let_e hf
                refine lv_iinc (v := v21) (lv' := [(2, .int v21), (0, .ref (b + t0)), (1, .ref (b + t1))]) hx hb dX3_readCommands_63 hl (k := 2) rfl (by rw [ev21]; rfl) (by decide) rfl (fun ls hl => ?_)
                refine lv_goto (tgt := 2) hx hb dX3_readCommands_66 (by decide) ?_
                exact ih M18 t0 t1 v21 _ _ hf _ _ _ ht0 ht1 hw (lv_sub hl [1, 2, 0] rfl)
              · have hf := cl_yes c20 hf
                refine lv_aload_n hx hb dX3_readCommands_55 rfl (lv_at hl 0 rfl) ?_
                refine lv_iconst (v := 3) hx hb dX3_readCommands_56 (by decide) ?_
                obtain ⟨v22, M23, e24, hf⟩ := cl_b2_e hf
                refine cr_Vi C hw (c_X3_fail hlt ht0 e24) cy_X3_fail vy_X3_fail ml_X3_101 (cl_lt ht0 (by decide)) (cl_e3 ht0) rfl rfl (As := [.int 3]) rfl hl.1 rfl ⟨⟨Nat.le_of_ble_eq_true rfl, Nat.le_of_ble_eq_true rfl⟩, Nat.le_of_ble_eq_true rfl, Nat.le_of_ble_eq_true rfl, Nat.le_of_ble_eq_true rfl⟩ dX3_readCommands_57 (fun H locs hw => ?_)
                refine lv_pop hx hb dX3_readCommands_60 rfl ?_
                refine lv_iconst (v := (-1)) hx hb dX3_readCommands_61 (by decide) ?_
                obtain ⟨rfl, rfl⟩ := cl_pair hf
                exact cr_reti C hw dX3_readCommands_62
            · have hf := cl_yes c16 hf
              refine lv_iconst (v := (-1)) hx hb dX3_readCommands_45 (by decide) ?_
              obtain ⟨rfl, rfl⟩ := cl_pair hf
              exact cr_reti C hw dX3_readCommands_46
      · have hf := cl_yes c4 hf
        refine lv_iload_n hx hb dX3_readCommands_19 rfl (lv_at hl 2 rfl) ?_
        obtain ⟨rfl, rfl⟩ := cl_pair hf
        exact cr_reti C hw dX3_readCommands_20
def f_X3_readCommands (M : cl_M) (t0 : Nat) (t1 : Nat) : Option (Int32 × cl_M) := f_X3_readCommands_2 cl_F M t0 t1 0
set_option maxHeartbeats 4000000 in
set_option maxRecDepth 100000 in
theorem k_X3_readCommands {p : Program} {l : Launch} {e : Env} {s : State} {m : MethodId} {args : Array Value} {below : List Frame} {meth : Method} {c : Code} {dd : cl_D} {b : Nat} (C : cl_C p l s m args meth c cX3_readCommands RX3 3 (some .int) dd b) : ∀ (M : cl_M) (t0 : Nat) (t1 : Nat) (r : Int32) (M' : cl_M), f_X3_readCommands M t0 t1 = some (r, M') → ∀ (H : Heap) (locs : List Loc) (ls : Array Slot), cl_sh dd t0 = 3 → cl_sh dd t1 = 2 → cl_H dd b M s H locs → lv_has ls 3 [(0, .ref (b + t0)), (1, .ref (b + t1))] → W p l e { frames := 7, cells := 0, slots := 0, locals := 149 } s m args below meth c H locs 0 0 (cl_Zi below args s dd b r M') (F0 m 0 ls []) := by
  have hx := C.1
  have hb := C.2.1
  have hlt := C.2.2.2.2.2.2.2.2.2.2
  have hRr := C.2.2.2.2.2.2.2.2.2.1
  intro M t0 t1 r M' hf H locs ls ht0 ht1 hw hl
  unfold f_X3_readCommands at hf
  refine lv_iconst (v := 0) hx hb dX3_readCommands_0 (by decide) ?_
  refine lv_istore_n (lv' := [(2, .int 0), (0, .ref (b + t0)), (1, .ref (b + t1))]) hx hb dX3_readCommands_1 rfl hl (by decide) rfl (fun ls hl => ?_)
  exact k_X3_readCommands_2 C cl_F M t0 t1 0 _ _ hf _ _ _ ht0 ht1 hw (lv_sub hl [1, 2, 0] rfl)
set_option maxRecDepth 100000 in
theorem c_X3_readCommands {l : Launch} {dd : cl_D} {b : Nat} (hlt : l.stackTraces = false) {M : cl_M} {t0 : Nat} {t1 : Nat}  {r : Int32} {M' : cl_M} (ht0 : cl_sh dd t0 = 3) (ht1 : cl_sh dd t1 = 2) (h : f_X3_readCommands M t0 t1 = some (r, M')) : cl_Mi l dd b yX3_readCommands cX3_readCommands 3 (some .int) 7 149 [.ref (b + t0), .ref (b + t1)] M r M' :=
  cl_of hlt (by decide) (Nat.le_of_ble_eq_true rfl) (fun p e s m below meth c ls C hw hl => k_X3_readCommands C M t0 t1 r M' h _ _ _ ht0 ht1 hw (lv_sub hl [0, 1] rfl))
theorem cy_X3_readCommands : cl_cy yX3_readCommands cX3_readCommands 3 (some .int) 1 := ⟨in_ClothesLine_TextReader, cd_X3_readCommands, by decide +kernel, by decide +kernel, by decide +kernel⟩
theorem vy_X3_readCommands : cl_vy yX3_readCommands := ⟨im_X3_readCommands, se_X3_readCommands⟩

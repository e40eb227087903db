def f_X5_holdOfPegs (M : cl_M) (a0 : Int32) (a1 : Int32) : Option (Int32) := some ((a0 * 20) + (a1 * 45))
set_option maxHeartbeats 4000000 in
set_option maxRecDepth 100000 in
theorem k_X5_holdOfPegs {p : Program} {l : Launch} {e : Env} {s : State} {m : MethodId} {args : Array Value} {below : List Frame} {meth : Method} {c : Code} {dd : cl_D} {b : Nat} (C : cl_C p l s m args meth c cX5_holdOfPegs RX5 2 (some .int) dd b) : ∀ (M : cl_M) (a0 : Int32) (a1 : Int32) (r : Int32), f_X5_holdOfPegs M a0 a1 = some r → ∀ (H : Heap) (locs : List Loc) (ls : Array Slot), cl_H dd b M s H locs → lv_has ls 2 [(0, .int a0), (1, .int a1)] → W p l e { frames := 0, cells := 0, slots := 0, locals := 0 } s m args below meth c H locs 0 0 (cl_Zi below args s dd b r M) (F0 m 0 ls []) := by
  have hx := C.1
  have hb := C.2.1
  have hlt := C.2.2.2.2.2.2.2.2.2.2
  have hRr := C.2.2.2.2.2.2.2.2.2.1
  intro M a0 a1 r hf H locs ls hw hl
  unfold f_X5_holdOfPegs at hf
  refine lv_iload_n hx hb dX5_holdOfPegs_0 rfl (lv_at hl 0 rfl) ?_
  refine lv_bipush (v := 20) hx hb dX5_holdOfPegs_1 (by decide) ?_
  refine lv_imul hx hb dX5_holdOfPegs_3 ?_
  refine lv_iload_n hx hb dX5_holdOfPegs_4 rfl (lv_at hl 1 rfl) ?_
  refine lv_bipush (v := 45) hx hb dX5_holdOfPegs_5 (by decide) ?_
  refine lv_imul hx hb dX5_holdOfPegs_7 ?_
  refine lv_iadd hx hb dX5_holdOfPegs_8 ?_
  obtain rfl := Option.some.inj hf
  exact cr_reti C hw dX5_holdOfPegs_9
set_option maxRecDepth 100000 in
theorem c_X5_holdOfPegs {l : Launch} {dd : cl_D} {b : Nat} (hlt : l.stackTraces = false) {M : cl_M} {a0 : Int32} {a1 : Int32}  {r : Int32} (h : f_X5_holdOfPegs M a0 a1 = some r) : cl_Mi l dd b yX5_holdOfPegs cX5_holdOfPegs 2 (some .int) 0 0 [.int a0, .int a1] M r M :=
  cl_of hlt (by decide) (Nat.le_of_ble_eq_true rfl) (fun p e s m below meth c ls C hw hl => k_X5_holdOfPegs C M a0 a1 r h _ _ _ hw (lv_sub hl [0, 1] rfl))
theorem cy_X5_holdOfPegs : cl_cy yX5_holdOfPegs cX5_holdOfPegs 2 (some .int) 2 := ⟨in_ClothesLine, cd_X5_holdOfPegs, by decide +kernel, by decide +kernel, by decide +kernel⟩
def f_X5_spotSet (M : cl_M) (a0 : Int32) (a1 : Int32) : Option (Int32) := some (((1 <<< (a1 &&& 31)) - 1) <<< (a0 &&& 31))
set_option maxHeartbeats 4000000 in
set_option maxRecDepth 100000 in
theorem k_X5_spotSet {p : Program} {l : Launch} {e : Env} {s : State} {m : MethodId} {args : Array Value} {below : List Frame} {meth : Method} {c : Code} {dd : cl_D} {b : Nat} (C : cl_C p l s m args meth c cX5_spotSet RX5 2 (some .int) dd b) : ∀ (M : cl_M) (a0 : Int32) (a1 : Int32) (r : Int32), f_X5_spotSet M a0 a1 = some r → ∀ (H : Heap) (locs : List Loc) (ls : Array Slot), cl_H dd b M s H locs → lv_has ls 2 [(0, .int a0), (1, .int a1)] → W p l e { frames := 0, cells := 0, slots := 0, locals := 0 } s m args below meth c H locs 0 0 (cl_Zi below args s dd b r M) (F0 m 0 ls []) := by
  have hx := C.1
  have hb := C.2.1
  have hlt := C.2.2.2.2.2.2.2.2.2.2
  have hRr := C.2.2.2.2.2.2.2.2.2.1
  intro M a0 a1 r hf H locs ls hw hl
  unfold f_X5_spotSet at hf
  refine lv_iconst (v := 1) hx hb dX5_spotSet_0 (by decide) ?_
  refine lv_iload_n hx hb dX5_spotSet_1 rfl (lv_at hl 1 rfl) ?_
  refine lv_ishl hx hb dX5_spotSet_2 ?_
  refine lv_iconst (v := 1) hx hb dX5_spotSet_3 (by decide) ?_
  refine lv_isub hx hb dX5_spotSet_4 ?_
  refine lv_iload_n hx hb dX5_spotSet_5 rfl (lv_at hl 0 rfl) ?_
  refine lv_ishl hx hb dX5_spotSet_6 ?_
  obtain rfl := Option.some.inj hf
  exact cr_reti C hw dX5_spotSet_7
set_option maxRecDepth 100000 in
theorem c_X5_spotSet {l : Launch} {dd : cl_D} {b : Nat} (hlt : l.stackTraces = false) {M : cl_M} {a0 : Int32} {a1 : Int32}  {r : Int32} (h : f_X5_spotSet M a0 a1 = some r) : cl_Mi l dd b yX5_spotSet cX5_spotSet 2 (some .int) 0 0 [.int a0, .int a1] M r M :=
  cl_of hlt (by decide) (Nat.le_of_ble_eq_true rfl) (fun p e s m below meth c ls C hw hl => k_X5_spotSet C M a0 a1 r h _ _ _ hw (lv_sub hl [0, 1] rfl))
theorem cy_X5_spotSet : cl_cy yX5_spotSet cX5_spotSet 2 (some .int) 2 := ⟨in_ClothesLine, cd_X5_spotSet, by decide +kernel, by decide +kernel, by decide +kernel⟩
def f_J6_bitCount_0f7a4 (M : cl_M) (a0 : Int32) : Option (Int32) := cl_let (a0 - (((a0.toUInt32 >>> ((1 : Int32).toUInt32 &&& Int32.toUInt32 31)).toInt32) &&& 1431655765)) (fun v1 => cl_let ((v1 &&& 858993459) + (((v1.toUInt32 >>> ((2 : Int32).toUInt32 &&& Int32.toUInt32 31)).toInt32) &&& 858993459)) (fun v2 => cl_let ((v2 + ((v2.toUInt32 >>> ((4 : Int32).toUInt32 &&& Int32.toUInt32 31)).toInt32)) &&& 252645135) (fun v3 => cl_let (v3 + ((v3.toUInt32 >>> ((8 : Int32).toUInt32 &&& Int32.toUInt32 31)).toInt32)) (fun v4 => cl_let (v4 + ((v4.toUInt32 >>> ((16 : Int32).toUInt32 &&& Int32.toUInt32 31)).toInt32)) (fun v5 => some (v5 &&& 63))))))
set_option maxHeartbeats 4000000 in
set_option maxRecDepth 100000 in
theorem k_J6_bitCount_0f7a4 {p : Program} {l : Launch} {e : Env} {s : State} {m : MethodId} {args : Array Value} {below : List Frame} {meth : Method} {c : Code} {dd : cl_D} {b : Nat} (C : cl_C p l s m args meth c cJ6_bitCount_0f7a4 RJ6 1 (some .int) dd b) : ∀ (M : cl_M) (a0 : Int32) (r : Int32), f_J6_bitCount_0f7a4 M a0 = some r → ∀ (H : Heap) (locs : List Loc) (ls : Array Slot), cl_H dd b M s H locs → lv_has ls 1 [(0, .int a0)] → W p l e { frames := 0, cells := 0, slots := 0, locals := 0 } s m args below meth c H locs 0 0 (cl_Zi below args s dd b r M) (F0 m 0 ls []) := by
  have hx := C.1
  have hb := C.2.1
  have hlt := C.2.2.2.2.2.2.2.2.2.2
  have hRr := C.2.2.2.2.2.2.2.2.2.1
  intro M a0 r hf H locs ls hw hl
  unfold f_J6_bitCount_0f7a4 at hf
  refine lv_iload_n hx hb dJ6_bitCount_0f7a4_0 rfl (lv_at hl 0 rfl) ?_
  refine lv_iload_n hx hb dJ6_bitCount_0f7a4_1 rfl (lv_at hl 0 rfl) ?_
  refine lv_iconst (v := 1) hx hb dJ6_bitCount_0f7a4_2 (by decide) ?_
  refine lv_iushr hx hb dJ6_bitCount_0f7a4_3 rfl ?_
  refine lv_ldcw (v := 1431655765) hx hb C.2.2.2.1 (C.2.2.2.2.1 _ kl_J6_265) dJ6_bitCount_0f7a4_4 ?_
  refine lv_iand hx hb dJ6_bitCount_0f7a4_7 ?_
  refine lv_isub hx hb dJ6_bitCount_0f7a4_8 ?_
  obtain ⟨v1, ev1, hf⟩ := cl_let_e hf
  refine cr_top ev1 ?_
  refine lv_istore_n (lv' := [(0, .int v1)]) hx hb dJ6_bitCount_0f7a4_9 rfl hl (by decide) rfl (fun ls hl => ?_)
  refine lv_iload_n hx hb dJ6_bitCount_0f7a4_10 rfl (lv_at hl 0 rfl) ?_
  refine lv_ldcw (v := 858993459) hx hb C.2.2.2.1 (C.2.2.2.2.1 _ kl_J6_266) dJ6_bitCount_0f7a4_11 ?_
  refine lv_iand hx hb dJ6_bitCount_0f7a4_14 ?_
  refine lv_iload_n hx hb dJ6_bitCount_0f7a4_15 rfl (lv_at hl 0 rfl) ?_
  refine lv_iconst (v := 2) hx hb dJ6_bitCount_0f7a4_16 (by decide) ?_
  refine lv_iushr hx hb dJ6_bitCount_0f7a4_17 rfl ?_
  refine lv_ldcw (v := 858993459) hx hb C.2.2.2.1 (C.2.2.2.2.1 _ kl_J6_266) dJ6_bitCount_0f7a4_18 ?_
  refine lv_iand hx hb dJ6_bitCount_0f7a4_21 ?_
  refine lv_iadd hx hb dJ6_bitCount_0f7a4_22 ?_
  obtain ⟨v2, ev2, hf⟩ := cl_let_e hf
  refine cr_top ev2 ?_
  refine lv_istore_n (lv' := [(0, .int v2)]) hx hb dJ6_bitCount_0f7a4_23 rfl hl (by decide) rfl (fun ls hl => ?_)
  refine lv_iload_n hx hb dJ6_bitCount_0f7a4_24 rfl (lv_at hl 0 rfl) ?_
  refine lv_iload_n hx hb dJ6_bitCount_0f7a4_25 rfl (lv_at hl 0 rfl) ?_
  refine lv_iconst (v := 4) hx hb dJ6_bitCount_0f7a4_26 (by decide) ?_
  refine lv_iushr hx hb dJ6_bitCount_0f7a4_27 rfl ?_
  refine lv_iadd hx hb dJ6_bitCount_0f7a4_28 ?_
  refine lv_ldcw (v := 252645135) hx hb C.2.2.2.1 (C.2.2.2.2.1 _ kl_J6_267) dJ6_bitCount_0f7a4_29 ?_
  refine lv_iand hx hb dJ6_bitCount_0f7a4_32 ?_
  obtain ⟨v3, ev3, hf⟩ := cl_let_e hf
  refine cr_top ev3 ?_
  refine lv_istore_n (lv' := [(0, .int v3)]) hx hb dJ6_bitCount_0f7a4_33 rfl hl (by decide) rfl (fun ls hl => ?_)
  refine lv_iload_n hx hb dJ6_bitCount_0f7a4_34 rfl (lv_at hl 0 rfl) ?_
  refine lv_iload_n hx hb dJ6_bitCount_0f7a4_35 rfl (lv_at hl 0 rfl) ?_
  refine lv_bipush (v := 8) hx hb dJ6_bitCount_0f7a4_36 (by decide) ?_
  refine lv_iushr hx hb dJ6_bitCount_0f7a4_38 rfl ?_
  refine lv_iadd hx hb dJ6_bitCount_0f7a4_39 ?_
  obtain ⟨v4, ev4, hf⟩ := cl_let_e hf
  refine cr_top ev4 ?_
  refine lv_istore_n (lv' := [(0, .int v4)]) hx hb dJ6_bitCount_0f7a4_40 rfl hl (by decide) rfl (fun ls hl => ?_)
  refine lv_iload_n hx hb dJ6_bitCount_0f7a4_41 rfl (lv_at hl 0 rfl) ?_
  refine lv_iload_n hx hb dJ6_bitCount_0f7a4_42 rfl (lv_at hl 0 rfl) ?_
  refine lv_bipush (v := 16) hx hb dJ6_bitCount_0f7a4_43 (by decide) ?_
  refine lv_iushr hx hb dJ6_bitCount_0f7a4_45 rfl ?_
  refine lv_iadd hx hb dJ6_bitCount_0f7a4_46 ?_
  obtain ⟨v5, ev5, hf⟩ := cl_let_e hf
  refine cr_top ev5 ?_
  refine lv_istore_n (lv' := [(0, .int v5)]) hx hb dJ6_bitCount_0f7a4_47 rfl hl (by decide) rfl (fun ls hl => ?_)
  refine lv_iload_n hx hb dJ6_bitCount_0f7a4_48 rfl (lv_at hl 0 rfl) ?_
  refine lv_bipush (v := 63) hx hb dJ6_bitCount_0f7a4_49 (by decide) ?_
  refine lv_iand hx hb dJ6_bitCount_0f7a4_51 ?_
  obtain rfl := Option.some.inj hf
  exact cr_reti C hw dJ6_bitCount_0f7a4_52
set_option maxRecDepth 100000 in
theorem c_J6_bitCount_0f7a4 {l : Launch} {dd : cl_D} {b : Nat} (hlt : l.stackTraces = false) {M : cl_M} {a0 : Int32}  {r : Int32} (h : f_J6_bitCount_0f7a4 M a0 = some r) : cl_Mi l dd b yJ6_bitCount_0f7a4 cJ6_bitCount_0f7a4 1 (some .int) 0 0 [.int a0] M r M :=
  cl_of hlt (by decide) (Nat.le_of_ble_eq_true rfl) (fun p e s m below meth c ls C hw hl => k_J6_bitCount_0f7a4 C M a0 r h _ _ _ hw (lv_sub hl [0] rfl))
theorem cy_J6_bitCount_0f7a4 : cl_cy yJ6_bitCount_0f7a4 cJ6_bitCount_0f7a4 1 (some .int) 1 := ⟨in_java_lang_Integer, cd_J6_bitCount_0f7a4, by decide +kernel, by decide +kernel, by decide +kernel⟩

def f_X1_clear (M : cl_M) (t0 : Nat) : Option (cl_M) := cl_let (cl_ms M t0 2 0) (fun M1 => some M1)
set_option maxHeartbeats 4000000 in
set_option maxRecDepth 100000 in
theorem k_X1_clear {p : Program} {l : Launch} {e : Env} {s : State} {m : MethodId} {args : Array Value} {below : List Frame} {meth : Method} {c : Code} {dd : cl_D} {b : Nat} (C : cl_C p l s m args meth c cX1_clear RX1 1 none dd b) : ∀ (M : cl_M) (t0 : Nat) (M' : cl_M), f_X1_clear M t0 = some M' → ∀ (H : Heap) (locs : List Loc) (ls : Array Slot), cl_sh dd t0 = 1 → cl_H dd b M s H locs → lv_has ls 1 [(0, .ref (b + t0))] → W p l e { frames := 0, cells := 0, slots := 0, locals := 0 } s m args below meth c H locs 0 0 (cl_Zv below args s dd b M') (F0 m 0 ls []) := by
  have hx := C.1
  have hb := C.2.1
  have hlt := C.2.2.2.2.2.2.2.2.2.2
  have hRr := C.2.2.2.2.2.2.2.2.2.1
  intro M t0 M' hf H locs ls ht0 hw hl
  unfold f_X1_clear at hf
  refine lv_aload_n hx hb dX1_clear_0 rfl (lv_at hl 0 rfl) ?_
  refine lv_iconst (v := 0) hx hb dX1_clear_1 (by decide) ?_
  obtain ⟨M1, eM1, hf⟩ := cl_let_e hf
  refine fp_X1_18 C hw ht0 eM1 dX1_clear_2 (fun H locs hw => ?_)
  obtain rfl := Option.some.inj hf
  exact cr_retv C hw dX1_clear_5
set_option maxRecDepth 100000 in
theorem c_X1_clear {l : Launch} {dd : cl_D} {b : Nat} (hlt : l.stackTraces = false) {M : cl_M} {t0 : Nat}  {M' : cl_M} (ht0 : cl_sh dd t0 = 1) (h : f_X1_clear M t0 = some M') : cl_Mv l dd b yX1_clear cX1_clear 1 none 0 0 [.ref (b + t0)] M M' :=
  cl_of hlt (by decide) (Nat.le_of_ble_eq_true rfl) (fun p e s m below meth c ls C hw hl => k_X1_clear C M t0 M' h _ _ _ ht0 hw (lv_sub hl [0] rfl))
theorem cy_X1_clear : cl_cy yX1_clear cX1_clear 1 none 0 := ⟨in_ClothesLine_History, cd_X1_clear, by decide +kernel, by decide +kernel, by decide +kernel⟩
theorem vy_X1_clear : cl_vy yX1_clear := ⟨im_X1_clear, se_X1_clear⟩
def f_X1_record (M : cl_M) (t0 : Nat) (t1 : Nat) : Option (cl_M) := if cl_inb (M t0 1) 8 = true then (f_X2_copyFrom M ((t0 + 1) + 1 + 19 * (M t0 1).toNatClampNeg) t1).bind (fun M2 => cl_let (cl_ms M2 t0 1 (((M2 t0 1) + 1) - ((M2 t0 1) + 1) / 8 * 8)) (fun M4 => cl_let (cl_ms M4 t0 2 (if 8 < ((M4 t0 2) + 1) then 8 else ((M4 t0 2) + 1))) (fun M5 => some M5))) else none
set_option maxHeartbeats 4000000 in
set_option maxRecDepth 100000 in
theorem k_X1_record {p : Program} {l : Launch} {e : Env} {s : State} {m : MethodId} {args : Array Value} {below : List Frame} {meth : Method} {c : Code} {dd : cl_D} {b : Nat} (C : cl_C p l s m args meth c cX1_record RX1 2 none dd b) : ∀ (M : cl_M) (t0 : Nat) (t1 : Nat) (M' : cl_M), f_X1_record M t0 t1 = some M' → ∀ (H : Heap) (locs : List Loc) (ls : Array Slot), cl_sh dd t0 = 1 → cl_sh dd t1 = 2 → cl_H dd b M s H locs → lv_has ls 2 [(0, .ref (b + t0)), (1, .ref (b + t1))] → W p l e { frames := 3, cells := 0, slots := 0, locals := 103 } s m args below meth c H locs 0 0 (cl_Zv below args s dd b M') (F0 m 0 ls []) := by
  have hx := C.1
  have hb := C.2.1
  have hlt := C.2.2.2.2.2.2.2.2.2.2
  have hRr := C.2.2.2.2.2.2.2.2.2.1
  intro M t0 t1 M' hf H locs ls ht0 ht1 hw hl
  unfold f_X1_record at hf
  refine lv_aload_n hx hb dX1_record_0 rfl (lv_at hl 0 rfl) ?_
  refine fg_X1_11 C hw ht0 dX1_record_1 ?_
  refine lv_aload_n hx hb dX1_record_4 rfl (lv_at hl 0 rfl) ?_
  refine fg_X1_22 C hw ht0 dX1_record_5 ?_
  obtain ⟨q1, hf⟩ := cl_grd hf
  refine cr_ald10 C hw (sh_1_0 ht0).1 q1 (k := (M t0 1).toNatClampNeg) rfl dX1_record_8 ?_
  refine lv_aload_n hx hb dX1_record_9 rfl (lv_at hl 1 rfl) ?_
  obtain ⟨M2, e3, hf⟩ := cl_bind_e hf
  refine cr_Vv C hw (c_X2_copyFrom hlt (sh_el_10 (sh_1_0 ht0).1 (cl_inb_lt q1)) ht1 e3) cy_X2_copyFrom vy_X2_copyFrom ml_X1_25 (cl_lt (sh_el_10 (sh_1_0 ht0).1 (cl_inb_lt q1)) (by decide)) (cl_e2 (sh_el_10 (sh_1_0 ht0).1 (cl_inb_lt q1))) rfl rfl (As := [.ref (b + t1)]) rfl hl.1 rfl ⟨⟨Nat.le_of_ble_eq_true rfl, Nat.le_of_ble_eq_true rfl⟩, Nat.le_of_ble_eq_true rfl, Nat.le_of_ble_eq_true rfl, Nat.le_of_ble_eq_true rfl⟩ dX1_record_10 (fun H locs hw => ?_)
  refine lv_aload_n hx hb dX1_record_13 rfl (lv_at hl 0 rfl) ?_
  refine lv_aload_n hx hb dX1_record_14 rfl (lv_at hl 0 rfl) ?_
  refine fg_X1_22 C hw ht0 dX1_record_15 ?_
  refine lv_iconst (v := 1) hx hb dX1_record_18 (by decide) ?_
  refine lv_iadd hx hb dX1_record_19 ?_
  refine lv_bipush (v := 8) hx hb dX1_record_20 (by decide) ?_
  refine lv_irem hx hb dX1_record_22 (by decide) ?_
  obtain ⟨M4, eM4, hf⟩ := cl_let_e hf
  refine fp_X1_22 C hw ht0 eM4 dX1_record_23 (fun H locs hw => ?_)
  refine lv_aload_n hx hb dX1_record_26 rfl (lv_at hl 0 rfl) ?_
  refine lv_aload_n hx hb dX1_record_27 rfl (lv_at hl 0 rfl) ?_
  refine fg_X1_18 C hw ht0 dX1_record_28 ?_
  refine lv_iconst (v := 1) hx hb dX1_record_31 (by decide) ?_
  refine lv_iadd hx hb dX1_record_32 ?_
  refine lv_bipush (v := 8) hx hb dX1_record_33 (by decide) ?_
  refine cr_min C ml_X1_29 st_math_min in_math cd_math_min hl.1 ⟨Nat.le_of_ble_eq_true rfl, Nat.le_of_ble_eq_true rfl, Nat.le_of_ble_eq_true rfl, Nat.le_of_ble_eq_true rfl⟩ dX1_record_35 ?_
  obtain ⟨M5, eM5, hf⟩ := cl_let_e hf
  refine fp_X1_18 C hw ht0 eM5 dX1_record_38 (fun H locs hw => ?_)
  obtain rfl := Option.some.inj hf
  exact cr_retv C hw dX1_record_41
set_option maxRecDepth 100000 in
theorem c_X1_record {l : Launch} {dd : cl_D} {b : Nat} (hlt : l.stackTraces = false) {M : cl_M} {t0 : Nat} {t1 : Nat}  {M' : cl_M} (ht0 : cl_sh dd t0 = 1) (ht1 : cl_sh dd t1 = 2) (h : f_X1_record M t0 t1 = some M') : cl_Mv l dd b yX1_record cX1_record 2 none 3 103 [.ref (b + t0), .ref (b + t1)] M M' :=
  cl_of hlt (by decide) (Nat.le_of_ble_eq_true rfl) (fun p e s m below meth c ls C hw hl => k_X1_record C M t0 t1 M' h _ _ _ ht0 ht1 hw (lv_sub hl [0, 1] rfl))
theorem cy_X1_record : cl_cy yX1_record cX1_record 2 none 1 := ⟨in_ClothesLine_History, cd_X1_record, by decide +kernel, by decide +kernel, by decide +kernel⟩
theorem vy_X1_record : cl_vy yX1_record := ⟨im_X1_record, se_X1_record⟩
def f_X1_takeBack (M : cl_M) (t0 : Nat) (t1 : Nat) : Option (cl_M) := cl_let (cl_ms M t0 1 ((((M t0 1) + 8) - 1) - (((M t0 1) + 8) - 1) / 8 * 8)) (fun M1 => cl_let (cl_ms M1 t0 2 ((M1 t0 2) - 1)) (fun M2 => if cl_inb (M2 t0 1) 8 = true then (f_X2_copyFrom M2 t1 ((t0 + 1) + 1 + 19 * (M2 t0 1).toNatClampNeg)).bind (fun M4 => some M4) else none))
set_option maxHeartbeats 4000000 in
set_option maxRecDepth 100000 in
theorem k_X1_takeBack {p : Program} {l : Launch} {e : Env} {s : State} {m : MethodId} {args : Array Value} {below : List Frame} {meth : Method} {c : Code} {dd : cl_D} {b : Nat} (C : cl_C p l s m args meth c cX1_takeBack RX1 2 none dd b) : ∀ (M : cl_M) (t0 : Nat) (t1 : Nat) (M' : cl_M), f_X1_takeBack M t0 t1 = some M' → ∀ (H : Heap) (locs : List Loc) (ls : Array Slot), cl_sh dd t0 = 1 → cl_sh dd t1 = 2 → cl_H dd b M s H locs → lv_has ls 2 [(0, .ref (b + t0)), (1, .ref (b + t1))] → W p l e { frames := 3, cells := 0, slots := 0, locals := 103 } s m args below meth c H locs 0 0 (cl_Zv below args s dd b M') (F0 m 0 ls []) := by
  have hx := C.1
  have hb := C.2.1
  have hlt := C.2.2.2.2.2.2.2.2.2.2
  have hRr := C.2.2.2.2.2.2.2.2.2.1
  intro M t0 t1 M' hf H locs ls ht0 ht1 hw hl
  unfold f_X1_takeBack at hf
  refine lv_aload_n hx hb dX1_takeBack_0 rfl (lv_at hl 0 rfl) ?_
  refine lv_aload_n hx hb dX1_takeBack_1 rfl (lv_at hl 0 rfl) ?_
  refine fg_X1_22 C hw ht0 dX1_takeBack_2 ?_
  refine lv_bipush (v := 8) hx hb dX1_takeBack_5 (by decide) ?_
  refine lv_iadd hx hb dX1_takeBack_7 ?_
  refine lv_iconst (v := 1) hx hb dX1_takeBack_8 (by decide) ?_
  refine lv_isub hx hb dX1_takeBack_9 ?_
  refine lv_bipush (v := 8) hx hb dX1_takeBack_10 (by decide) ?_
  refine lv_irem hx hb dX1_takeBack_12 (by decide) ?_
  obtain ⟨M1, eM1, hf⟩ := cl_let_e hf
  refine fp_X1_22 C hw ht0 eM1 dX1_takeBack_13 (fun H locs hw => ?_)
  refine lv_aload_n hx hb dX1_takeBack_16 rfl (lv_at hl 0 rfl) ?_
  refine lv_dup hx hb dX1_takeBack_17 rfl ?_
  refine fg_X1_18 C hw ht0 dX1_takeBack_18 ?_
  refine lv_iconst (v := 1) hx hb dX1_takeBack_21 (by decide) ?_
  refine lv_isub hx hb dX1_takeBack_22 ?_
  obtain ⟨M2, eM2, hf⟩ := cl_let_e hf
  refine fp_X1_18 C hw ht0 eM2 dX1_takeBack_23 (fun H locs hw => ?_)
  refine lv_aload_n hx hb dX1_takeBack_26 rfl (lv_at hl 1 rfl) ?_
  refine lv_aload_n hx hb dX1_takeBack_27 rfl (lv_at hl 0 rfl) ?_
  refine fg_X1_11 C hw ht0 dX1_takeBack_28 ?_
  refine lv_aload_n hx hb dX1_takeBack_31 rfl (lv_at hl 0 rfl) ?_
  refine fg_X1_22 C hw ht0 dX1_takeBack_32 ?_
  obtain ⟨q3, hf⟩ := cl_grd hf
  refine cr_ald10 C hw (sh_1_0 ht0).1 q3 (k := (M2 t0 1).toNatClampNeg) rfl dX1_takeBack_35 ?_
  obtain ⟨M4, e5, hf⟩ := cl_bind_e hf
  refine cr_Vv C hw (c_X2_copyFrom hlt ht1 (sh_el_10 (sh_1_0 ht0).1 (cl_inb_lt q3)) e5) cy_X2_copyFrom vy_X2_copyFrom ml_X1_25 (cl_lt ht1 (by decide)) (cl_e2 ht1) rfl rfl (As := [.ref (b + ((t0 + 1) + 1 + 19 * (M2 t0 1).toNatClampNeg))]) rfl hl.1 rfl ⟨⟨Nat.le_of_ble_eq_true rfl, Nat.le_of_ble_eq_true rfl⟩, Nat.le_of_ble_eq_true rfl, Nat.le_of_ble_eq_true rfl, Nat.le_of_ble_eq_true rfl⟩ dX1_takeBack_36 (fun H locs hw => ?_)
  obtain rfl := Option.some.inj hf
  exact cr_retv C hw dX1_takeBack_39
set_option maxRecDepth 100000 in
theorem c_X1_takeBack {l : Launch} {dd : cl_D} {b : Nat} (hlt : l.stackTraces = false) {M : cl_M} {t0 : Nat} {t1 : Nat}  {M' : cl_M} (ht0 : cl_sh dd t0 = 1) (ht1 : cl_sh dd t1 = 2) (h : f_X1_takeBack M t0 t1 = some M') : cl_Mv l dd b yX1_takeBack cX1_takeBack 2 none 3 103 [.ref (b + t0), .ref (b + t1)] M M' :=
  cl_of hlt (by decide) (Nat.le_of_ble_eq_true rfl) (fun p e s m below meth c ls C hw hl => k_X1_takeBack C M t0 t1 M' h _ _ _ ht0 ht1 hw (lv_sub hl [0, 1] rfl))
theorem cy_X1_takeBack : cl_cy yX1_takeBack cX1_takeBack 2 none 1 := ⟨in_ClothesLine_History, cd_X1_takeBack, by decide +kernel, by decide +kernel, by decide +kernel⟩
theorem vy_X1_takeBack : cl_vy yX1_takeBack := ⟨im_X1_takeBack, se_X1_takeBack⟩

def f_X0_putInto (M : cl_M) (t0 : Nat) (a1 : Int32) : Option (cl_M) := cl_let (cl_ms M t0 6 a1) (fun M1 => cl_let (cl_ms M1 t0 7 (-1)) (fun M2 => cl_let (cl_ms M2 t0 8 0) (fun M3 => cl_let (cl_ms M3 t0 9 0) (fun M4 => cl_let (cl_ms M4 t0 10 0) (fun M5 => some M5)))))
set_option maxHeartbeats 4000000 in
set_option maxRecDepth 100000 in
theorem k_X0_putInto {p : Program} {l : Launch} {e : Env} {s : State} {m : MethodId} {args : Array Value} {below : List Frame} {meth : Method} {c : Code} {dd : cl_D} {b : Nat} (C : cl_C p l s m args meth c cX0_putInto RX0 2 none dd b) : ∀ (M : cl_M) (t0 : Nat) (a1 : Int32) (M' : cl_M), f_X0_putInto M t0 a1 = some M' → ∀ (H : Heap) (locs : List Loc) (ls : Array Slot), cl_sh dd t0 = 0 → cl_H dd b M s H locs → lv_has ls 2 [(0, .ref (b + t0)), (1, .int a1)] → W p l e { frames := 0, cells := 0, slots := 0, locals := 0 } s m args below meth c H locs 0 0 (cl_Zv below args s dd b M') (F0 m 0 ls []) := by
  have hx := C.1
  have hb := C.2.1
  have hlt := C.2.2.2.2.2.2.2.2.2.2
  have hRr := C.2.2.2.2.2.2.2.2.2.1
  intro M t0 a1 M' hf H locs ls ht0 hw hl
  unfold f_X0_putInto at hf
  refine lv_aload_n hx hb dX0_putInto_0 rfl (lv_at hl 0 rfl) ?_
  refine lv_iload_n hx hb dX0_putInto_1 rfl (lv_at hl 1 rfl) ?_
  obtain ⟨M1, eM1, hf⟩ := cl_let_e hf
  refine fp_X0_50 C hw ht0 eM1 dX0_putInto_2 (fun H locs hw => ?_)
  refine lv_aload_n hx hb dX0_putInto_5 rfl (lv_at hl 0 rfl) ?_
  refine lv_iconst (v := (-1)) hx hb dX0_putInto_6 (by decide) ?_
  obtain ⟨M2, eM2, hf⟩ := cl_let_e hf
  refine fp_X0_9 C hw ht0 eM2 dX0_putInto_7 (fun H locs hw => ?_)
  refine lv_aload_n hx hb dX0_putInto_10 rfl (lv_at hl 0 rfl) ?_
  refine lv_iconst (v := 0) hx hb dX0_putInto_11 (by decide) ?_
  obtain ⟨M3, eM3, hf⟩ := cl_let_e hf
  refine fp_X0_53 C hw ht0 eM3 dX0_putInto_12 (fun H locs hw => ?_)
  refine lv_aload_n hx hb dX0_putInto_15 rfl (lv_at hl 0 rfl) ?_
  refine lv_iconst (v := 0) hx hb dX0_putInto_16 (by decide) ?_
  obtain ⟨M4, eM4, hf⟩ := cl_let_e hf
  refine fp_X0_56 C hw ht0 eM4 dX0_putInto_17 (fun H locs hw => ?_)
  refine lv_aload_n hx hb dX0_putInto_20 rfl (lv_at hl 0 rfl) ?_
  refine lv_iconst (v := 0) hx hb dX0_putInto_21 (by decide) ?_
  obtain ⟨M5, eM5, hf⟩ := cl_let_e hf
  refine fp_X0_59 C hw ht0 eM5 dX0_putInto_22 (fun H locs hw => ?_)
  obtain rfl := Option.some.inj hf
  exact cr_retv C hw dX0_putInto_25
set_option maxRecDepth 100000 in
theorem c_X0_putInto {l : Launch} {dd : cl_D} {b : Nat} (hlt : l.stackTraces = false) {M : cl_M} {t0 : Nat} {a1 : Int32}  {M' : cl_M} (ht0 : cl_sh dd t0 = 0) (h : f_X0_putInto M t0 a1 = some M') : cl_Mv l dd b yX0_putInto cX0_putInto 2 none 0 0 [.ref (b + t0), .int a1] M M' :=
  cl_of hlt (by decide) (Nat.le_of_ble_eq_true rfl) (fun p e s m below meth c ls C hw hl => k_X0_putInto C M t0 a1 M' h _ _ _ ht0 hw (lv_sub hl [0, 1] rfl))
theorem cy_X0_putInto : cl_cy yX0_putInto cX0_putInto 2 none 1 := ⟨in_ClothesLine_Garment, cd_X0_putInto, by decide +kernel, by decide +kernel, by decide +kernel⟩
theorem vy_X0_putInto : cl_vy yX0_putInto := ⟨im_X0_putInto, se_X0_putInto⟩
def f_X0_makeNew (M : cl_M) (t0 : Nat) (a1 : Int32) (a2 : Int32) (a3 : Int32) (a4 : Int32) : Option (cl_M) := cl_let (cl_ms M t0 0 a1) (fun M1 => cl_let (cl_ms M1 t0 1 a2) (fun M2 => cl_let (cl_ms M2 t0 2 a3) (fun M3 => cl_let (cl_ms M3 t0 3 a4) (fun M4 => cl_let (cl_ms M4 t0 4 0) (fun M5 => cl_let (cl_ms M5 t0 5 0) (fun M6 => cl_let (cl_ms M6 t0 11 0) (fun M7 => cl_let (cl_ms M7 t0 12 a4) (fun M8 => cl_let (cl_ms M8 t0 13 0) (fun M9 => cl_let (cl_ms M9 t0 14 0) (fun M10 => (f_X0_putInto M10 t0 0).bind (fun M11 => some M11)))))))))))
set_option maxHeartbeats 4000000 in
set_option maxRecDepth 100000 in
theorem k_X0_makeNew {p : Program} {l : Launch} {e : Env} {s : State} {m : MethodId} {args : Array Value} {below : List Frame} {meth : Method} {c : Code} {dd : cl_D} {b : Nat} (C : cl_C p l s m args meth c cX0_makeNew RX0 5 none dd b) : ∀ (M : cl_M) (t0 : Nat) (a1 : Int32) (a2 : Int32) (a3 : Int32) (a4 : Int32) (M' : cl_M), f_X0_makeNew M t0 a1 a2 a3 a4 = some M' → ∀ (H : Heap) (locs : List Loc) (ls : Array Slot), cl_sh dd t0 = 0 → cl_H dd b M s H locs → lv_has ls 5 [(0, .ref (b + t0)), (1, .int a1), (2, .int a2), (3, .int a3), (4, .int a4)] → W p l e { frames := 1, cells := 0, slots := 0, locals := 21 } s m args below meth c H locs 0 0 (cl_Zv below args s dd b M') (F0 m 0 ls []) := by
  have hx := C.1
  have hb := C.2.1
  have hlt := C.2.2.2.2.2.2.2.2.2.2
  have hRr := C.2.2.2.2.2.2.2.2.2.1
  intro M t0 a1 a2 a3 a4 M' hf H locs ls ht0 hw hl
  unfold f_X0_makeNew at hf
  refine lv_aload_n hx hb dX0_makeNew_0 rfl (lv_at hl 0 rfl) ?_
  refine lv_iload_n hx hb dX0_makeNew_1 rfl (lv_at hl 1 rfl) ?_
  obtain ⟨M1, eM1, hf⟩ := cl_let_e hf
  refine fp_X0_15 C hw ht0 eM1 dX0_makeNew_2 (fun H locs hw => ?_)
  refine lv_aload_n hx hb dX0_makeNew_5 rfl (lv_at hl 0 rfl) ?_
  refine lv_iload_n hx hb dX0_makeNew_6 rfl (lv_at hl 2 rfl) ?_
  obtain ⟨M2, eM2, hf⟩ := cl_let_e hf
  refine fp_X0_18 C hw ht0 eM2 dX0_makeNew_7 (fun H locs hw => ?_)
  refine lv_aload_n hx hb dX0_makeNew_10 rfl (lv_at hl 0 rfl) ?_
  refine lv_iload_n hx hb dX0_makeNew_11 rfl (lv_at hl 3 rfl) ?_
  obtain ⟨M3, eM3, hf⟩ := cl_let_e hf
  refine fp_X0_21 C hw ht0 eM3 dX0_makeNew_12 (fun H locs hw => ?_)
  refine lv_aload_n hx hb dX0_makeNew_15 rfl (lv_at hl 0 rfl) ?_
  refine lv_iload hx hb dX0_makeNew_16 (lv_at hl 4 rfl) ?_
  obtain ⟨M4, eM4, hf⟩ := cl_let_e hf
  refine fp_X0_24 C hw ht0 eM4 dX0_makeNew_18 (fun H locs hw => ?_)
  refine lv_aload_n hx hb dX0_makeNew_21 rfl (lv_at hl 0 rfl) ?_
  refine lv_iconst (v := 0) hx hb dX0_makeNew_22 (by decide) ?_
  obtain ⟨M5, eM5, hf⟩ := cl_let_e hf
  refine fp_X0_27 C hw ht0 eM5 dX0_makeNew_23 (fun H locs hw => ?_)
  refine lv_aload_n hx hb dX0_makeNew_26 rfl (lv_at hl 0 rfl) ?_
  refine lv_iconst (v := 0) hx hb dX0_makeNew_27 (by decide) ?_
  obtain ⟨M6, eM6, hf⟩ := cl_let_e hf
  refine fp_X0_30 C hw ht0 (by decide) eM6 dX0_makeNew_28 (fun H locs hw => ?_)
  refine lv_aload_n hx hb dX0_makeNew_31 rfl (lv_at hl 0 rfl) ?_
  refine lv_iconst (v := 0) hx hb dX0_makeNew_32 (by decide) ?_
  obtain ⟨M7, eM7, hf⟩ := cl_let_e hf
  refine fp_X0_34 C hw ht0 eM7 dX0_makeNew_33 (fun H locs hw => ?_)
  refine lv_aload_n hx hb dX0_makeNew_36 rfl (lv_at hl 0 rfl) ?_
  refine lv_iload hx hb dX0_makeNew_37 (lv_at hl 4 rfl) ?_
  obtain ⟨M8, eM8, hf⟩ := cl_let_e hf
  refine fp_X0_37 C hw ht0 eM8 dX0_makeNew_39 (fun H locs hw => ?_)
  refine lv_aload_n hx hb dX0_makeNew_42 rfl (lv_at hl 0 rfl) ?_
  refine lv_iconst (v := 0) hx hb dX0_makeNew_43 (by decide) ?_
  obtain ⟨M9, eM9, hf⟩ := cl_let_e hf
  refine fp_X0_40 C hw ht0 eM9 dX0_makeNew_44 (fun H locs hw => ?_)
  refine lv_aload_n hx hb dX0_makeNew_47 rfl (lv_at hl 0 rfl) ?_
  refine lv_iconst (v := 0) hx hb dX0_makeNew_48 (by decide) ?_
  obtain ⟨M10, eM10, hf⟩ := cl_let_e hf
  refine fp_X0_43 C hw ht0 eM10 dX0_makeNew_49 (fun H locs hw => ?_)
  refine lv_aload_n hx hb dX0_makeNew_52 rfl (lv_at hl 0 rfl) ?_
  refine lv_iconst (v := 0) hx hb dX0_makeNew_53 (by decide) ?_
  obtain ⟨M11, e12, hf⟩ := cl_bind_e hf
  refine cr_Vv C hw (c_X0_putInto hlt ht0 e12) cy_X0_putInto vy_X0_putInto ml_X0_46 (cl_lt ht0 (by decide)) (cl_e0 ht0) rfl rfl (As := [.int 0]) rfl hl.1 rfl ⟨⟨Nat.le_of_ble_eq_true rfl, Nat.le_of_ble_eq_true rfl⟩, Nat.le_of_ble_eq_true rfl, Nat.le_of_ble_eq_true rfl, Nat.le_of_ble_eq_true rfl⟩ dX0_makeNew_54 (fun H locs hw => ?_)
  obtain rfl := Option.some.inj hf
  exact cr_retv C hw dX0_makeNew_57
set_option maxRecDepth 100000 in
theorem c_X0_makeNew {l : Launch} {dd : cl_D} {b : Nat} (hlt : l.stackTraces = false) {M : cl_M} {t0 : Nat} {a1 : Int32} {a2 : Int32} {a3 : Int32} {a4 : Int32}  {M' : cl_M} (ht0 : cl_sh dd t0 = 0) (h : f_X0_makeNew M t0 a1 a2 a3 a4 = some M') : cl_Mv l dd b yX0_makeNew cX0_makeNew 5 none 1 21 [.ref (b + t0), .int a1, .int a2, .int a3, .int a4] M M' :=
  cl_of hlt (by decide) (Nat.le_of_ble_eq_true rfl) (fun p e s m below meth c ls C hw hl => k_X0_makeNew C M t0 a1 a2 a3 a4 M' h _ _ _ ht0 hw (lv_sub hl [0, 1, 2, 3, 4] rfl))
theorem cy_X0_makeNew : cl_cy yX0_makeNew cX0_makeNew 5 none 4 := ⟨in_ClothesLine_Garment, cd_X0_makeNew, by decide +kernel, by decide +kernel, by decide +kernel⟩
theorem vy_X0_makeNew : cl_vy yX0_makeNew := ⟨im_X0_makeNew, se_X0_makeNew⟩
def f_X0_copyFrom (M : cl_M) (t0 : Nat) (t1 : Nat) : Option (cl_M) := cl_let (cl_ms M t0 0 (M t1 0)) (fun M1 => cl_let (cl_ms M1 t0 1 (M1 t1 1)) (fun M2 => cl_let (cl_ms M2 t0 2 (M2 t1 2)) (fun M3 => cl_let (cl_ms M3 t0 3 (M3 t1 3)) (fun M4 => cl_let (cl_ms M4 t0 4 (M4 t1 4)) (fun M5 => if cl_bz (M5 t1 5) = true then cl_let (cl_ms M5 t0 5 (M5 t1 5)) (fun M7 => cl_let (cl_ms M7 t0 6 (M7 t1 6)) (fun M8 => cl_let (cl_ms M8 t0 7 (M8 t1 7)) (fun M9 => cl_let (cl_ms M9 t0 8 (M9 t1 8)) (fun M10 => cl_let (cl_ms M10 t0 9 (M10 t1 9)) (fun M11 => cl_let (cl_ms M11 t0 10 (M11 t1 10)) (fun M12 => cl_let (cl_ms M12 t0 11 (M12 t1 11)) (fun M13 => cl_let (cl_ms M13 t0 12 (M13 t1 12)) (fun M14 => cl_let (cl_ms M14 t0 13 (M14 t1 13)) (fun M15 => cl_let (cl_ms M15 t0 14 (M15 t1 14)) (fun M16 => some M16)))))))))) else none)))))
set_option maxHeartbeats 4000000 in
set_option maxRecDepth 100000 in
theorem k_X0_copyFrom {p : Program} {l : Launch} {e : Env} {s : State} {m : MethodId} {args : Array Value} {below : List Frame} {meth : Method} {c : Code} {dd : cl_D} {b : Nat} (C : cl_C p l s m args meth c cX0_copyFrom RX0 2 none dd b) : ∀ (M : cl_M) (t0 : Nat) (t1 : Nat) (M' : cl_M), f_X0_copyFrom M t0 t1 = some M' → ∀ (H : Heap) (locs : List Loc) (ls : Array Slot), cl_sh dd t0 = 0 → cl_sh dd t1 = 0 → cl_H dd b M s H locs → lv_has ls 2 [(0, .ref (b + t0)), (1, .ref (b + t1))] → W p l e { frames := 0, cells := 0, slots := 0, locals := 0 } s m args below meth c H locs 0 0 (cl_Zv below args s dd b M') (F0 m 0 ls []) := by
  have hx := C.1
  have hb := C.2.1
  have hlt := C.2.2.2.2.2.2.2.2.2.2
  have hRr := C.2.2.2.2.2.2.2.2.2.1
  intro M t0 t1 M' hf H locs ls ht0 ht1 hw hl
  unfold f_X0_copyFrom at hf
  refine lv_aload_n hx hb dX0_copyFrom_0 rfl (lv_at hl 0 rfl) ?_
  refine lv_aload_n hx hb dX0_copyFrom_1 rfl (lv_at hl 1 rfl) ?_
  refine fg_X0_15 C hw ht1 dX0_copyFrom_2 ?_
  obtain ⟨M1, eM1, hf⟩ := cl_let_e hf
  refine fp_X0_15 C hw ht0 eM1 dX0_copyFrom_5 (fun H locs hw => ?_)
  refine lv_aload_n hx hb dX0_copyFrom_8 rfl (lv_at hl 0 rfl) ?_
  refine lv_aload_n hx hb dX0_copyFrom_9 rfl (lv_at hl 1 rfl) ?_
  refine fg_X0_18 C hw ht1 dX0_copyFrom_10 ?_
  obtain ⟨M2, eM2, hf⟩ := cl_let_e hf
  refine fp_X0_18 C hw ht0 eM2 dX0_copyFrom_13 (fun H locs hw => ?_)
  refine lv_aload_n hx hb dX0_copyFrom_16 rfl (lv_at hl 0 rfl) ?_
  refine lv_aload_n hx hb dX0_copyFrom_17 rfl (lv_at hl 1 rfl) ?_
  refine fg_X0_21 C hw ht1 dX0_copyFrom_18 ?_
  obtain ⟨M3, eM3, hf⟩ := cl_let_e hf
  refine fp_X0_21 C hw ht0 eM3 dX0_copyFrom_21 (fun H locs hw => ?_)
  refine lv_aload_n hx hb dX0_copyFrom_24 rfl (lv_at hl 0 rfl) ?_
  refine lv_aload_n hx hb dX0_copyFrom_25 rfl (lv_at hl 1 rfl) ?_
  refine fg_X0_24 C hw ht1 dX0_copyFrom_26 ?_
  obtain ⟨M4, eM4, hf⟩ := cl_let_e hf
  refine fp_X0_24 C hw ht0 eM4 dX0_copyFrom_29 (fun H locs hw => ?_)
  refine lv_aload_n hx hb dX0_copyFrom_32 rfl (lv_at hl 0 rfl) ?_
  refine lv_aload_n hx hb dX0_copyFrom_33 rfl (lv_at hl 1 rfl) ?_
  refine fg_X0_27 C hw ht1 dX0_copyFrom_34 ?_
  obtain ⟨M5, eM5, hf⟩ := cl_let_e hf
  refine fp_X0_27 C hw ht0 eM5 dX0_copyFrom_37 (fun H locs hw => ?_)
  refine lv_aload_n hx hb dX0_copyFrom_40 rfl (lv_at hl 0 rfl) ?_
  refine lv_aload_n hx hb dX0_copyFrom_41 rfl (lv_at hl 1 rfl) ?_
  refine fg_X0_30 C hw ht1 dX0_copyFrom_42 ?_
  obtain ⟨q6, hf⟩ := cl_grd hf
  obtain ⟨M7, eM7, hf⟩ := cl_let_e hf
  refine fp_X0_30 C hw ht0 q6 eM7 dX0_copyFrom_45 (fun H locs hw => ?_)
  refine lv_aload_n hx hb dX0_copyFrom_48 rfl (lv_at hl 0 rfl) ?_
  refine lv_aload_n hx hb dX0_copyFrom_49 rfl (lv_at hl 1 rfl) ?_
  refine fg_X0_50 C hw ht1 dX0_copyFrom_50 ?_
  obtain ⟨M8, eM8, hf⟩ := cl_let_e hf
  refine fp_X0_50 C hw ht0 eM8 dX0_copyFrom_53 (fun H locs hw => ?_)
  refine lv_aload_n hx hb dX0_copyFrom_56 rfl (lv_at hl 0 rfl) ?_
  refine lv_aload_n hx hb dX0_copyFrom_57 rfl (lv_at hl 1 rfl) ?_
  refine fg_X0_9 C hw ht1 dX0_copyFrom_58 ?_
  obtain ⟨M9, eM9, hf⟩ := cl_let_e hf
  refine fp_X0_9 C hw ht0 eM9 dX0_copyFrom_61 (fun H locs hw => ?_)
  refine lv_aload_n hx hb dX0_copyFrom_64 rfl (lv_at hl 0 rfl) ?_
  refine lv_aload_n hx hb dX0_copyFrom_65 rfl (lv_at hl 1 rfl) ?_
  refine fg_X0_53 C hw ht1 dX0_copyFrom_66 ?_
  obtain ⟨M10, eM10, hf⟩ := cl_let_e hf
  refine fp_X0_53 C hw ht0 eM10 dX0_copyFrom_69 (fun H locs hw => ?_)
  refine lv_aload_n hx hb dX0_copyFrom_72 rfl (lv_at hl 0 rfl) ?_
  refine lv_aload_n hx hb dX0_copyFrom_73 rfl (lv_at hl 1 rfl) ?_
  refine fg_X0_56 C hw ht1 dX0_copyFrom_74 ?_
  obtain ⟨M11, eM11, hf⟩ := cl_let_e hf
  refine fp_X0_56 C hw ht0 eM11 dX0_copyFrom_77 (fun H locs hw => ?_)
  refine lv_aload_n hx hb dX0_copyFrom_80 rfl (lv_at hl 0 rfl) ?_
  refine lv_aload_n hx hb dX0_copyFrom_81 rfl (lv_at hl 1 rfl) ?_
  refine fg_X0_59 C hw ht1 dX0_copyFrom_82 ?_
  obtain ⟨M12, eM12, hf⟩ := cl_let_e hf
  refine fp_X0_59 C hw ht0 eM12 dX0_copyFrom_85 (fun H locs hw => ?_)
  refine lv_aload_n hx hb dX0_copyFrom_88 rfl (lv_at hl 0 rfl) ?_
  refine lv_aload_n hx hb dX0_copyFrom_89 rfl (lv_at hl 1 rfl) ?_
  refine fg_X0_34 C hw ht1 dX0_copyFrom_90 ?_
  obtain ⟨M13, eM13, hf⟩ := cl_let_e hf
  refine fp_X0_34 C hw ht0 eM13 dX0_copyFrom_93 (fun H locs hw => ?_)
  refine lv_aload_n hx hb dX0_copyFrom_96 rfl (lv_at hl 0 rfl) ?_
  refine lv_aload_n hx hb dX0_copyFrom_97 rfl (lv_at hl 1 rfl) ?_
  refine fg_X0_37 C hw ht1 dX0_copyFrom_98 ?_
  obtain ⟨M14, eM14, hf⟩ := cl_let_e hf
  refine fp_X0_37 C hw ht0 eM14 dX0_copyFrom_101 (fun H locs hw => ?_)
  refine lv_aload_n hx hb dX0_copyFrom_104 rfl (lv_at hl 0 rfl) ?_
  refine lv_aload_n hx hb dX0_copyFrom_105 rfl (lv_at hl 1 rfl) ?_
  refine fg_X0_40 C hw ht1 dX0_copyFrom_106 ?_
  obtain ⟨M15, eM15, hf⟩ := cl_let_e hf
  refine fp_X0_40 C hw ht0 eM15 dX0_copyFrom_109 (fun H locs hw => ?_)
  refine lv_aload_n hx hb dX0_copyFrom_112 rfl (lv_at hl 0 rfl) ?_
  refine lv_aload_n hx hb dX0_copyFrom_113 rfl (lv_at hl 1 rfl) ?_
  refine fg_X0_43 C hw ht1 dX0_copyFrom_114 ?_
  obtain ⟨M16, eM16, hf⟩ := cl_let_e hf
  refine fp_X0_43 C hw ht0 eM16 dX0_copyFrom_117 (fun H locs hw => ?_)
  obtain rfl := Option.some.inj hf
  exact cr_retv C hw dX0_copyFrom_120
set_option maxRecDepth 100000 in
theorem c_X0_copyFrom {l : Launch} {dd : cl_D} {b : Nat} (hlt : l.stackTraces = false) {M : cl_M} {t0 : Nat} {t1 : Nat}  {M' : cl_M} (ht0 : cl_sh dd t0 = 0) (ht1 : cl_sh dd t1 = 0) (h : f_X0_copyFrom M t0 t1 = some M') : cl_Mv l dd b yX0_copyFrom cX0_copyFrom 2 none 0 0 [.ref (b + t0), .ref (b + t1)] M M' :=
  cl_of hlt (by decide) (Nat.le_of_ble_eq_true rfl) (fun p e s m below meth c ls C hw hl => k_X0_copyFrom C M t0 t1 M' h _ _ _ ht0 ht1 hw (lv_sub hl [0, 1] rfl))
theorem cy_X0_copyFrom : cl_cy yX0_copyFrom cX0_copyFrom 2 none 1 := ⟨in_ClothesLine_Garment, cd_X0_copyFrom, by decide +kernel, by decide +kernel, by decide +kernel⟩
theorem vy_X0_copyFrom : cl_vy yX0_copyFrom := ⟨im_X0_copyFrom, se_X0_copyFrom⟩
def f_X0_weight (M : cl_M) (t0 : Nat) : Option (Int32) := some ((M t0 1) + ((M t0 3) / 10))
set_option maxHeartbeats 4000000 in
set_option maxRecDepth 100000 in
theorem k_X0_weight {p : Program} {l : Launch} {e : Env} {s : State} {m : MethodId} {args : Array Value} {below : List Frame} {meth : Method} {c : Code} {dd : cl_D} {b : Nat} (C : cl_C p l s m args meth c cX0_weight RX0 1 (some .int) dd b) : ∀ (M : cl_M) (t0 : Nat) (r : Int32), f_X0_weight M t0 = some r → ∀ (H : Heap) (locs : List Loc) (ls : Array Slot), cl_sh dd t0 = 0 → cl_H dd b M s H locs → lv_has ls 1 [(0, .ref (b + t0))] → W p l e { frames := 0, cells := 0, slots := 0, locals := 0 } s m args below meth c H locs 0 0 (cl_Zi below args s dd b r M) (F0 m 0 ls []) := by
  have hx := C.1
  have hb := C.2.1
  have hlt := C.2.2.2.2.2.2.2.2.2.2
  have hRr := C.2.2.2.2.2.2.2.2.2.1
  intro M t0 r hf H locs ls ht0 hw hl
  unfold f_X0_weight at hf
  refine lv_aload_n hx hb dX0_weight_0 rfl (lv_at hl 0 rfl) ?_
  refine fg_X0_18 C hw ht0 dX0_weight_1 ?_
  refine lv_aload_n hx hb dX0_weight_4 rfl (lv_at hl 0 rfl) ?_
  refine fg_X0_24 C hw ht0 dX0_weight_5 ?_
  refine lv_bipush (v := 10) hx hb dX0_weight_8 (by decide) ?_
  refine lv_idiv hx hb dX0_weight_10 (by decide) ?_
  refine lv_iadd hx hb dX0_weight_11 ?_
  obtain rfl := Option.some.inj hf
  exact cr_reti C hw dX0_weight_12
set_option maxRecDepth 100000 in
theorem c_X0_weight {l : Launch} {dd : cl_D} {b : Nat} (hlt : l.stackTraces = false) {M : cl_M} {t0 : Nat}  {r : Int32} (ht0 : cl_sh dd t0 = 0) (h : f_X0_weight M t0 = some r) : cl_Mi l dd b yX0_weight cX0_weight 1 (some .int) 0 0 [.ref (b + t0)] M r M :=
  cl_of hlt (by decide) (Nat.le_of_ble_eq_true rfl) (fun p e s m below meth c ls C hw hl => k_X0_weight C M t0 r h _ _ _ ht0 hw (lv_sub hl [0] rfl))
theorem cy_X0_weight : cl_cy yX0_weight cX0_weight 1 (some .int) 0 := ⟨in_ClothesLine_Garment, cd_X0_weight, by decide +kernel, by decide +kernel, by decide +kernel⟩
theorem vy_X0_weight : cl_vy yX0_weight := ⟨im_X0_weight, se_X0_weight⟩
def f_X0_hold (M : cl_M) (t0 : Nat) : Option (Int32) := (f_X5_holdOfPegs M (M t0 9) (M t0 10)).bind (fun v1 => some v1)
set_option maxHeartbeats 4000000 in
set_option maxRecDepth 100000 in
theorem k_X0_hold {p : Program} {l : Launch} {e : Env} {s : State} {m : MethodId} {args : Array Value} {below : List Frame} {meth : Method} {c : Code} {dd : cl_D} {b : Nat} (C : cl_C p l s m args meth c cX0_hold RX0 1 (some .int) dd b) : ∀ (M : cl_M) (t0 : Nat) (r : Int32), f_X0_hold M t0 = some r → ∀ (H : Heap) (locs : List Loc) (ls : Array Slot), cl_sh dd t0 = 0 → cl_H dd b M s H locs → lv_has ls 1 [(0, .ref (b + t0))] → W p l e { frames := 1, cells := 0, slots := 0, locals := 21 } s m args below meth c H locs 0 0 (cl_Zi below args s dd b r M) (F0 m 0 ls []) := by
  have hx := C.1
  have hb := C.2.1
  have hlt := C.2.2.2.2.2.2.2.2.2.2
  have hRr := C.2.2.2.2.2.2.2.2.2.1
  intro M t0 r hf H locs ls ht0 hw hl
  unfold f_X0_hold at hf
  refine lv_aload_n hx hb dX0_hold_0 rfl (lv_at hl 0 rfl) ?_
  refine fg_X0_56 C hw ht0 dX0_hold_1 ?_
  refine lv_aload_n hx hb dX0_hold_4 rfl (lv_at hl 0 rfl) ?_
  refine fg_X0_59 C hw ht0 dX0_hold_5 ?_
  obtain ⟨v1, e2, hf⟩ := cl_bind_e hf
  refine cr_Ni C hw (c_X5_holdOfPegs hlt e2) cy_X5_holdOfPegs st_X5_holdOfPegs ml_X0_62 (As := [.int (M t0 9), .int (M t0 10)]) rfl hl.1 rfl ⟨⟨Nat.le_of_ble_eq_true rfl, Nat.le_of_ble_eq_true rfl⟩, Nat.le_of_ble_eq_true rfl, Nat.le_of_ble_eq_true rfl, Nat.le_of_ble_eq_true rfl⟩ dX0_hold_8 (fun H locs hw => ?_)
  obtain rfl := Option.some.inj hf
  exact cr_reti C hw dX0_hold_11
set_option maxRecDepth 100000 in
theorem c_X0_hold {l : Launch} {dd : cl_D} {b : Nat} (hlt : l.stackTraces = false) {M : cl_M} {t0 : Nat}  {r : Int32} (ht0 : cl_sh dd t0 = 0) (h : f_X0_hold M t0 = some r) : cl_Mi l dd b yX0_hold cX0_hold 1 (some .int) 1 21 [.ref (b + t0)] M r M :=
  cl_of hlt (by decide) (Nat.le_of_ble_eq_true rfl) (fun p e s m below meth c ls C hw hl => k_X0_hold C M t0 r h _ _ _ ht0 hw (lv_sub hl [0] rfl))
theorem cy_X0_hold : cl_cy yX0_hold cX0_hold 1 (some .int) 0 := ⟨in_ClothesLine_Garment, cd_X0_hold, by decide +kernel, by decide +kernel, by decide +kernel⟩
theorem vy_X0_hold : cl_vy yX0_hold := ⟨im_X0_hold, se_X0_hold⟩
def f_X0_moveTo (M : cl_M) (t0 : Nat) (a1 : Int32) : Option (cl_M) := cl_let (cl_ms M t0 7 a1) (fun M1 => (f_X5_spotSet M1 a1 (M1 t0 0)).bind (fun v2 => cl_let (cl_ms M1 t0 8 v2) (fun M4 => some M4)))
set_option maxHeartbeats 4000000 in
set_option maxRecDepth 100000 in
theorem k_X0_moveTo {p : Program} {l : Launch} {e : Env} {s : State} {m : MethodId} {args : Array Value} {below : List Frame} {meth : Method} {c : Code} {dd : cl_D} {b : Nat} (C : cl_C p l s m args meth c cX0_moveTo RX0 2 none dd b) : ∀ (M : cl_M) (t0 : Nat) (a1 : Int32) (M' : cl_M), f_X0_moveTo M t0 a1 = some M' → ∀ (H : Heap) (locs : List Loc) (ls : Array Slot), cl_sh dd t0 = 0 → cl_H dd b M s H locs → lv_has ls 2 [(0, .ref (b + t0)), (1, .int a1)] → W p l e { frames := 1, cells := 0, slots := 0, locals := 21 } s m args below meth c H locs 0 0 (cl_Zv below args s dd b M') (F0 m 0 ls []) := by
  have hx := C.1
  have hb := C.2.1
  have hlt := C.2.2.2.2.2.2.2.2.2.2
  have hRr := C.2.2.2.2.2.2.2.2.2.1
  intro M t0 a1 M' hf H locs ls ht0 hw hl
  unfold f_X0_moveTo at hf
  refine lv_aload_n hx hb dX0_moveTo_0 rfl (lv_at hl 0 rfl) ?_
  refine lv_iload_n hx hb dX0_moveTo_1 rfl (lv_at hl 1 rfl) ?_
  obtain ⟨M1, eM1, hf⟩ := cl_let_e hf
  refine fp_X0_9 C hw ht0 eM1 dX0_moveTo_2 (fun H locs hw => ?_)
  refine lv_aload_n hx hb dX0_moveTo_5 rfl (lv_at hl 0 rfl) ?_
  refine lv_iload_n hx hb dX0_moveTo_6 rfl (lv_at hl 1 rfl) ?_
  refine lv_aload_n hx hb dX0_moveTo_7 rfl (lv_at hl 0 rfl) ?_
  refine fg_X0_15 C hw ht0 dX0_moveTo_8 ?_
  obtain ⟨v2, e3, hf⟩ := cl_bind_e hf
  refine cr_Ni C hw (c_X5_spotSet hlt e3) cy_X5_spotSet st_X5_spotSet ml_X0_69 (As := [.int a1, .int (M1 t0 0)]) rfl hl.1 rfl ⟨⟨Nat.le_of_ble_eq_true rfl, Nat.le_of_ble_eq_true rfl⟩, Nat.le_of_ble_eq_true rfl, Nat.le_of_ble_eq_true rfl, Nat.le_of_ble_eq_true rfl⟩ dX0_moveTo_11 (fun H locs hw => ?_)
  obtain ⟨M4, eM4, hf⟩ := cl_let_e hf
  refine fp_X0_53 C hw ht0 eM4 dX0_moveTo_14 (fun H locs hw => ?_)
  obtain rfl := Option.some.inj hf
  exact cr_retv C hw dX0_moveTo_17
set_option maxRecDepth 100000 in
theorem c_X0_moveTo {l : Launch} {dd : cl_D} {b : Nat} (hlt : l.stackTraces = false) {M : cl_M} {t0 : Nat} {a1 : Int32}  {M' : cl_M} (ht0 : cl_sh dd t0 = 0) (h : f_X0_moveTo M t0 a1 = some M') : cl_Mv l dd b yX0_moveTo cX0_moveTo 2 none 1 21 [.ref (b + t0), .int a1] M M' :=
  cl_of hlt (by decide) (Nat.le_of_ble_eq_true rfl) (fun p e s m below meth c ls C hw hl => k_X0_moveTo C M t0 a1 M' h _ _ _ ht0 hw (lv_sub hl [0, 1] rfl))
theorem cy_X0_moveTo : cl_cy yX0_moveTo cX0_moveTo 2 none 1 := ⟨in_ClothesLine_Garment, cd_X0_moveTo, by decide +kernel, by decide +kernel, by decide +kernel⟩
theorem vy_X0_moveTo : cl_vy yX0_moveTo := ⟨im_X0_moveTo, se_X0_moveTo⟩
def f_X0_hangUp (M : cl_M) (t0 : Nat) (a1 : Int32) (a2 : Int32) (a3 : Int32) : Option (cl_M) := cl_let (cl_ms M t0 6 1) (fun M1 => cl_let (cl_ms M1 t0 9 a2) (fun M2 => cl_let (cl_ms M2 t0 10 a3) (fun M3 => (f_X0_moveTo M3 t0 a1).bind (fun M4 => some M4))))
set_option maxHeartbeats 4000000 in
set_option maxRecDepth 100000 in
theorem k_X0_hangUp {p : Program} {l : Launch} {e : Env} {s : State} {m : MethodId} {args : Array Value} {below : List Frame} {meth : Method} {c : Code} {dd : cl_D} {b : Nat} (C : cl_C p l s m args meth c cX0_hangUp RX0 4 none dd b) : ∀ (M : cl_M) (t0 : Nat) (a1 : Int32) (a2 : Int32) (a3 : Int32) (M' : cl_M), f_X0_hangUp M t0 a1 a2 a3 = some M' → ∀ (H : Heap) (locs : List Loc) (ls : Array Slot), cl_sh dd t0 = 0 → cl_H dd b M s H locs → lv_has ls 4 [(0, .ref (b + t0)), (1, .int a1), (2, .int a2), (3, .int a3)] → W p l e { frames := 2, cells := 0, slots := 0, locals := 42 } s m args below meth c H locs 0 0 (cl_Zv below args s dd b M') (F0 m 0 ls []) := by
  have hx := C.1
  have hb := C.2.1
  have hlt := C.2.2.2.2.2.2.2.2.2.2
  have hRr := C.2.2.2.2.2.2.2.2.2.1
  intro M t0 a1 a2 a3 M' hf H locs ls ht0 hw hl
  unfold f_X0_hangUp at hf
  refine lv_aload_n hx hb dX0_hangUp_0 rfl (lv_at hl 0 rfl) ?_
  refine lv_iconst (v := 1) hx hb dX0_hangUp_1 (by decide) ?_
  obtain ⟨M1, eM1, hf⟩ := cl_let_e hf
  refine fp_X0_50 C hw ht0 eM1 dX0_hangUp_2 (fun H locs hw => ?_)
  refine lv_aload_n hx hb dX0_hangUp_5 rfl (lv_at hl 0 rfl) ?_
  refine lv_iload_n hx hb dX0_hangUp_6 rfl (lv_at hl 2 rfl) ?_
  obtain ⟨M2, eM2, hf⟩ := cl_let_e hf
  refine fp_X0_56 C hw ht0 eM2 dX0_hangUp_7 (fun H locs hw => ?_)
  refine lv_aload_n hx hb dX0_hangUp_10 rfl (lv_at hl 0 rfl) ?_
  refine lv_iload_n hx hb dX0_hangUp_11 rfl (lv_at hl 3 rfl) ?_
  obtain ⟨M3, eM3, hf⟩ := cl_let_e hf
  refine fp_X0_59 C hw ht0 eM3 dX0_hangUp_12 (fun H locs hw => ?_)
  refine lv_aload_n hx hb dX0_hangUp_15 rfl (lv_at hl 0 rfl) ?_
  refine lv_iload_n hx hb dX0_hangUp_16 rfl (lv_at hl 1 rfl) ?_
  obtain ⟨M4, e5, hf⟩ := cl_bind_e hf
  refine cr_Vv C hw (c_X0_moveTo hlt ht0 e5) cy_X0_moveTo vy_X0_moveTo ml_X0_66 (cl_lt ht0 (by decide)) (cl_e0 ht0) rfl rfl (As := [.int a1]) rfl hl.1 rfl ⟨⟨Nat.le_of_ble_eq_true rfl, Nat.le_of_ble_eq_true rfl⟩, Nat.le_of_ble_eq_true rfl, Nat.le_of_ble_eq_true rfl, Nat.le_of_ble_eq_true rfl⟩ dX0_hangUp_17 (fun H locs hw => ?_)
  obtain rfl := Option.some.inj hf
  exact cr_retv C hw dX0_hangUp_20
set_option maxRecDepth 100000 in
theorem c_X0_hangUp {l : Launch} {dd : cl_D} {b : Nat} (hlt : l.stackTraces = false) {M : cl_M} {t0 : Nat} {a1 : Int32} {a2 : Int32} {a3 : Int32}  {M' : cl_M} (ht0 : cl_sh dd t0 = 0) (h : f_X0_hangUp M t0 a1 a2 a3 = some M') : cl_Mv l dd b yX0_hangUp cX0_hangUp 4 none 2 42 [.ref (b + t0), .int a1, .int a2, .int a3] M M' :=
  cl_of hlt (by decide) (Nat.le_of_ble_eq_true rfl) (fun p e s m below meth c ls C hw hl => k_X0_hangUp C M t0 a1 a2 a3 M' h _ _ _ ht0 hw (lv_sub hl [0, 1, 2, 3] rfl))
theorem cy_X0_hangUp : cl_cy yX0_hangUp cX0_hangUp 4 none 3 := ⟨in_ClothesLine_Garment, cd_X0_hangUp, by decide +kernel, by decide +kernel, by decide +kernel⟩
theorem vy_X0_hangUp : cl_vy yX0_hangUp := ⟨im_X0_hangUp, se_X0_hangUp⟩
def f_X0_soak (M : cl_M) (t0 : Nat) : Option (cl_M) := cl_let (cl_ms M t0 12 ((M t0 12) + ((M t0 2) - (M t0 3)))) (fun M1 => cl_let (cl_ms M1 t0 3 (M1 t0 2)) (fun M2 => cl_let (cl_ms M2 t0 4 0) (fun M3 => cl_let (cl_ms M3 t0 5 0) (fun M4 => some M4))))
set_option maxHeartbeats 4000000 in
set_option maxRecDepth 100000 in
theorem k_X0_soak {p : Program} {l : Launch} {e : Env} {s : State} {m : MethodId} {args : Array Value} {below : List Frame} {meth : Method} {c : Code} {dd : cl_D} {b : Nat} (C : cl_C p l s m args meth c cX0_soak RX0 1 none dd b) : ∀ (M : cl_M) (t0 : Nat) (M' : cl_M), f_X0_soak M t0 = some M' → ∀ (H : Heap) (locs : List Loc) (ls : Array Slot), cl_sh dd t0 = 0 → cl_H dd b M s H locs → lv_has ls 1 [(0, .ref (b + t0))] → W p l e { frames := 0, cells := 0, slots := 0, locals := 0 } s m args below meth c H locs 0 0 (cl_Zv below args s dd b M') (F0 m 0 ls []) := by
  have hx := C.1
  have hb := C.2.1
  have hlt := C.2.2.2.2.2.2.2.2.2.2
  have hRr := C.2.2.2.2.2.2.2.2.2.1
  intro M t0 M' hf H locs ls ht0 hw hl
  unfold f_X0_soak at hf
  refine lv_aload_n hx hb dX0_soak_0 rfl (lv_at hl 0 rfl) ?_
  refine lv_dup hx hb dX0_soak_1 rfl ?_
  refine fg_X0_37 C hw ht0 dX0_soak_2 ?_
  refine lv_aload_n hx hb dX0_soak_5 rfl (lv_at hl 0 rfl) ?_
  refine fg_X0_21 C hw ht0 dX0_soak_6 ?_
  refine lv_aload_n hx hb dX0_soak_9 rfl (lv_at hl 0 rfl) ?_
  refine fg_X0_24 C hw ht0 dX0_soak_10 ?_
  refine lv_isub hx hb dX0_soak_13 ?_
  refine lv_iadd hx hb dX0_soak_14 ?_
  obtain ⟨M1, eM1, hf⟩ := cl_let_e hf
  refine fp_X0_37 C hw ht0 eM1 dX0_soak_15 (fun H locs hw => ?_)
  refine lv_aload_n hx hb dX0_soak_18 rfl (lv_at hl 0 rfl) ?_
  refine lv_aload_n hx hb dX0_soak_19 rfl (lv_at hl 0 rfl) ?_
  refine fg_X0_21 C hw ht0 dX0_soak_20 ?_
  obtain ⟨M2, eM2, hf⟩ := cl_let_e hf
  refine fp_X0_24 C hw ht0 eM2 dX0_soak_23 (fun H locs hw => ?_)
  refine lv_aload_n hx hb dX0_soak_26 rfl (lv_at hl 0 rfl) ?_
  refine lv_iconst (v := 0) hx hb dX0_soak_27 (by decide) ?_
  obtain ⟨M3, eM3, hf⟩ := cl_let_e hf
  refine fp_X0_27 C hw ht0 eM3 dX0_soak_28 (fun H locs hw => ?_)
  refine lv_aload_n hx hb dX0_soak_31 rfl (lv_at hl 0 rfl) ?_
  refine lv_iconst (v := 0) hx hb dX0_soak_32 (by decide) ?_
  obtain ⟨M4, eM4, hf⟩ := cl_let_e hf
  refine fp_X0_30 C hw ht0 (by decide) eM4 dX0_soak_33 (fun H locs hw => ?_)
  obtain rfl := Option.some.inj hf
  exact cr_retv C hw dX0_soak_36
set_option maxRecDepth 100000 in
theorem c_X0_soak {l : Launch} {dd : cl_D} {b : Nat} (hlt : l.stackTraces = false) {M : cl_M} {t0 : Nat}  {M' : cl_M} (ht0 : cl_sh dd t0 = 0) (h : f_X0_soak M t0 = some M') : cl_Mv l dd b yX0_soak cX0_soak 1 none 0 0 [.ref (b + t0)] M M' :=
  cl_of hlt (by decide) (Nat.le_of_ble_eq_true rfl) (fun p e s m below meth c ls C hw hl => k_X0_soak C M t0 M' h _ _ _ ht0 hw (lv_sub hl [0] rfl))
theorem cy_X0_soak : cl_cy yX0_soak cX0_soak 1 none 0 := ⟨in_ClothesLine_Garment, cd_X0_soak, by decide +kernel, by decide +kernel, by decide +kernel⟩
theorem vy_X0_soak : cl_vy yX0_soak := ⟨im_X0_soak, se_X0_soak⟩
def f_X0_getWet (M : cl_M) (t0 : Nat) (a1 : Int32) : Option (cl_M) := cl_let (if ((M t0 2) - (M t0 3)) < (a1 * (M t0 0)) then ((M t0 2) - (M t0 3)) else (a1 * (M t0 0))) (fun v1 => cl_let (cl_ms M t0 3 ((M t0 3) + v1)) (fun M2 => cl_let (cl_ms M2 t0 12 ((M2 t0 12) + v1)) (fun M3 => some M3)))
set_option maxHeartbeats 4000000 in
set_option maxRecDepth 100000 in
theorem k_X0_getWet {p : Program} {l : Launch} {e : Env} {s : State} {m : MethodId} {args : Array Value} {below : List Frame} {meth : Method} {c : Code} {dd : cl_D} {b : Nat} (C : cl_C p l s m args meth c cX0_getWet RX0 3 none dd b) : ∀ (M : cl_M) (t0 : Nat) (a1 : Int32) (M' : cl_M), f_X0_getWet M t0 a1 = some M' → ∀ (H : Heap) (locs : List Loc) (ls : Array Slot), cl_sh dd t0 = 0 → cl_H dd b M s H locs → lv_has ls 3 [(0, .ref (b + t0)), (1, .int a1)] → W p l e { frames := 1, cells := 0, slots := 0, locals := 13 } s m args below meth c H locs 0 0 (cl_Zv below args s dd b M') (F0 m 0 ls []) := by
  have hx := C.1
  have hb := C.2.1
  have hlt := C.2.2.2.2.2.2.2.2.2.2
  have hRr := C.2.2.2.2.2.2.2.2.2.1
  intro M t0 a1 M' hf H locs ls ht0 hw hl
  unfold f_X0_getWet at hf
  refine lv_iload_n hx hb dX0_getWet_0 rfl (lv_at hl 1 rfl) ?_
  refine lv_aload_n hx hb dX0_getWet_1 rfl (lv_at hl 0 rfl) ?_
  refine fg_X0_15 C hw ht0 dX0_getWet_2 ?_
  refine lv_imul hx hb dX0_getWet_5 ?_
  refine lv_aload_n hx hb dX0_getWet_6 rfl (lv_at hl 0 rfl) ?_
  refine fg_X0_21 C hw ht0 dX0_getWet_7 ?_
  refine lv_aload_n hx hb dX0_getWet_10 rfl (lv_at hl 0 rfl) ?_
  refine fg_X0_24 C hw ht0 dX0_getWet_11 ?_
  refine lv_isub hx hb dX0_getWet_14 ?_
  refine cr_min C ml_X0_72 st_math_min in_math cd_math_min hl.1 ⟨Nat.le_of_ble_eq_true rfl, Nat.le_of_ble_eq_true rfl, Nat.le_of_ble_eq_true rfl, Nat.le_of_ble_eq_true rfl⟩ dX0_getWet_15 ?_
  obtain ⟨v1, ev1, hf⟩ := cl_let_e hf
  refine cr_top ev1 ?_
  refine lv_istore_n (lv' := [(2, .int v1), (0, .ref (b + t0)), (1, .int a1)]) hx hb dX0_getWet_18 rfl hl (by decide) rfl (fun ls hl => ?_)
  refine lv_aload_n hx hb dX0_getWet_19 rfl (lv_at hl 1 rfl) ?_
  refine lv_dup hx hb dX0_getWet_20 rfl ?_
  refine fg_X0_24 C hw ht0 dX0_getWet_21 ?_
  refine lv_iload_n hx hb dX0_getWet_24 rfl (lv_at hl 0 rfl) ?_
  refine lv_iadd hx hb dX0_getWet_25 ?_
  obtain ⟨M2, eM2, hf⟩ := cl_let_e hf
  refine fp_X0_24 C hw ht0 eM2 dX0_getWet_26 (fun H locs hw => ?_)
  refine lv_aload_n hx hb dX0_getWet_29 rfl (lv_at hl 1 rfl) ?_
  refine lv_dup hx hb dX0_getWet_30 rfl ?_
  refine fg_X0_37 C hw ht0 dX0_getWet_31 ?_
  refine lv_iload_n hx hb dX0_getWet_34 rfl (lv_at hl 0 rfl) ?_
  refine lv_iadd hx hb dX0_getWet_35 ?_
  obtain ⟨M3, eM3, hf⟩ := cl_let_e hf
  refine fp_X0_37 C hw ht0 eM3 dX0_getWet_36 (fun H locs hw => ?_)
  obtain rfl := Option.some.inj hf
  exact cr_retv C hw dX0_getWet_39
set_option maxRecDepth 100000 in
theorem c_X0_getWet {l : Launch} {dd : cl_D} {b : Nat} (hlt : l.stackTraces = false) {M : cl_M} {t0 : Nat} {a1 : Int32}  {M' : cl_M} (ht0 : cl_sh dd t0 = 0) (h : f_X0_getWet M t0 a1 = some M') : cl_Mv l dd b yX0_getWet cX0_getWet 3 none 1 13 [.ref (b + t0), .int a1] M M' :=
  cl_of hlt (by decide) (Nat.le_of_ble_eq_true rfl) (fun p e s m below meth c ls C hw hl => k_X0_getWet C M t0 a1 M' h _ _ _ ht0 hw (lv_sub hl [0, 1] rfl))
theorem cy_X0_getWet : cl_cy yX0_getWet cX0_getWet 3 none 1 := ⟨in_ClothesLine_Garment, cd_X0_getWet, by decide +kernel, by decide +kernel, by decide +kernel⟩
theorem vy_X0_getWet : cl_vy yX0_getWet := ⟨im_X0_getWet, se_X0_getWet⟩
def f_X0_getDry (M : cl_M) (t0 : Nat) (a1 : Int32) (a2 : Int32) : Option (cl_M) := (f_J6_bitCount_0f7a4 M (a1 &&& (M t0 8))).bind (fun v1 => cl_let (if (M t0 3) < v1 then (M t0 3) else v1) (fun v3 => cl_let (cl_ms M t0 3 ((M t0 3) - v3)) (fun M4 => cl_let (cl_ms M4 t0 13 ((M4 t0 13) + v3)) (fun M5 => cl_let (if (M5 t0 3) < a2 then (M5 t0 3) else a2) (fun v6 => cl_let (cl_ms M5 t0 3 ((M5 t0 3) - v6)) (fun M7 => cl_let (cl_ms M7 t0 14 ((M7 t0 14) + v6)) (fun M8 => some M8)))))))
set_option maxHeartbeats 4000000 in
set_option maxRecDepth 100000 in
theorem k_X0_getDry {p : Program} {l : Launch} {e : Env} {s : State} {m : MethodId} {args : Array Value} {below : List Frame} {meth : Method} {c : Code} {dd : cl_D} {b : Nat} (C : cl_C p l s m args meth c cX0_getDry RX0 5 none dd b) : ∀ (M : cl_M) (t0 : Nat) (a1 : Int32) (a2 : Int32) (M' : cl_M), f_X0_getDry M t0 a1 a2 = some M' → ∀ (H : Heap) (locs : List Loc) (ls : Array Slot), cl_sh dd t0 = 0 → cl_H dd b M s H locs → lv_has ls 5 [(0, .ref (b + t0)), (1, .int a1), (2, .int a2)] → W p l e { frames := 1, cells := 0, slots := 0, locals := 20 } s m args below meth c H locs 0 0 (cl_Zv below args s dd b M') (F0 m 0 ls []) := by
  have hx := C.1
  have hb := C.2.1
  have hlt := C.2.2.2.2.2.2.2.2.2.2
  have hRr := C.2.2.2.2.2.2.2.2.2.1
  intro M t0 a1 a2 M' hf H locs ls ht0 hw hl
  unfold f_X0_getDry at hf
  refine lv_iload_n hx hb dX0_getDry_0 rfl (lv_at hl 1 rfl) ?_
  refine lv_aload_n hx hb dX0_getDry_1 rfl (lv_at hl 0 rfl) ?_
  refine fg_X0_53 C hw ht0 dX0_getDry_2 ?_
  refine lv_iand hx hb dX0_getDry_5 ?_
  obtain ⟨v1, e2, hf⟩ := cl_bind_e hf
  refine cr_Si C hw (c_J6_bitCount_0f7a4 hlt e2) cy_J6_bitCount_0f7a4 st_J6_bitCount_0f7a4 ml_X0_77 (As := [.int (a1 &&& (M t0 8))]) rfl hl.1 rfl ⟨⟨Nat.le_of_ble_eq_true rfl, Nat.le_of_ble_eq_true rfl⟩, Nat.le_of_ble_eq_true rfl, Nat.le_of_ble_eq_true rfl, Nat.le_of_ble_eq_true rfl⟩ dX0_getDry_6 (fun H locs hw => ?_)
  refine lv_aload_n hx hb dX0_getDry_9 rfl (lv_at hl 0 rfl) ?_
  refine fg_X0_24 C hw ht0 dX0_getDry_10 ?_
  refine cr_min C ml_X0_72 st_math_min in_math cd_math_min hl.1 ⟨Nat.le_of_ble_eq_true rfl, Nat.le_of_ble_eq_true rfl, Nat.le_of_ble_eq_true rfl, Nat.le_of_ble_eq_true rfl⟩ dX0_getDry_13 ?_
  obtain ⟨v3, ev3, hf⟩ := cl_let_e hf
  refine cr_top ev3 ?_
  refine lv_istore_n (lv' := [(3, .int v3), (0, .ref (b + t0)), (1, .int a1), (2, .int a2)]) hx hb dX0_getDry_16 rfl hl (by decide) rfl (fun ls hl => ?_)
  refine lv_aload_n hx hb dX0_getDry_17 rfl (lv_at hl 1 rfl) ?_
  refine lv_dup hx hb dX0_getDry_18 rfl ?_
  refine fg_X0_24 C hw ht0 dX0_getDry_19 ?_
  refine lv_iload_n hx hb dX0_getDry_22 rfl (lv_at hl 0 rfl) ?_
  refine lv_isub hx hb dX0_getDry_23 ?_
  obtain ⟨M4, eM4, hf⟩ := cl_let_e hf
  refine fp_X0_24 C hw ht0 eM4 dX0_getDry_24 (fun H locs hw => ?_)
  refine lv_aload_n hx hb dX0_getDry_27 rfl (lv_at hl 1 rfl) ?_
  refine lv_dup hx hb dX0_getDry_28 rfl ?_
  refine fg_X0_40 C hw ht0 dX0_getDry_29 ?_
  refine lv_iload_n hx hb dX0_getDry_32 rfl (lv_at hl 0 rfl) ?_
  refine lv_iadd hx hb dX0_getDry_33 ?_
  obtain ⟨M5, eM5, hf⟩ := cl_let_e hf
  refine fp_X0_40 C hw ht0 eM5 dX0_getDry_34 (fun H locs hw => ?_)
  refine lv_iload_n hx hb dX0_getDry_37 rfl (lv_at hl 3 rfl) ?_
  refine lv_aload_n hx hb dX0_getDry_38 rfl (lv_at hl 1 rfl) ?_
  refine fg_X0_24 C hw ht0 dX0_getDry_39 ?_
  refine cr_min C ml_X0_72 st_math_min in_math cd_math_min hl.1 ⟨Nat.le_of_ble_eq_true rfl, Nat.le_of_ble_eq_true rfl, Nat.le_of_ble_eq_true rfl, Nat.le_of_ble_eq_true rfl⟩ dX0_getDry_42 ?_
  obtain ⟨v6, ev6, hf⟩ := cl_let_e hf
  refine cr_top ev6 ?_
  refine lv_istore (lv' := [(4, .int v6), (3, .int v3), (0, .ref (b + t0)), (1, .int a1), (2, .int a2)]) hx hb dX0_getDry_45 hl (by decide) rfl (fun ls hl => ?_)
  refine lv_aload_n hx hb dX0_getDry_47 rfl (lv_at hl 2 rfl) ?_
  refine lv_dup hx hb dX0_getDry_48 rfl ?_
  refine fg_X0_24 C hw ht0 dX0_getDry_49 ?_
  refine lv_iload hx hb dX0_getDry_52 (lv_at hl 0 rfl) ?_
  refine lv_isub hx hb dX0_getDry_54 ?_
  obtain ⟨M7, eM7, hf⟩ := cl_let_e hf
  refine fp_X0_24 C hw ht0 eM7 dX0_getDry_55 (fun H locs hw => ?_)
  refine lv_aload_n hx hb dX0_getDry_58 rfl (lv_at hl 2 rfl) ?_
  refine lv_dup hx hb dX0_getDry_59 rfl ?_
  refine fg_X0_43 C hw ht0 dX0_getDry_60 ?_
  refine lv_iload hx hb dX0_getDry_63 (lv_at hl 0 rfl) ?_
  refine lv_iadd hx hb dX0_getDry_65 ?_
  obtain ⟨M8, eM8, hf⟩ := cl_let_e hf
  refine fp_X0_43 C hw ht0 eM8 dX0_getDry_66 (fun H locs hw => ?_)
  obtain rfl := Option.some.inj hf
  exact cr_retv C hw dX0_getDry_69
set_option maxRecDepth 100000 in
theorem c_X0_getDry {l : Launch} {dd : cl_D} {b : Nat} (hlt : l.stackTraces = false) {M : cl_M} {t0 : Nat} {a1 : Int32} {a2 : Int32}  {M' : cl_M} (ht0 : cl_sh dd t0 = 0) (h : f_X0_getDry M t0 a1 a2 = some M') : cl_Mv l dd b yX0_getDry cX0_getDry 5 none 1 20 [.ref (b + t0), .int a1, .int a2] M M' :=
  cl_of hlt (by decide) (Nat.le_of_ble_eq_true rfl) (fun p e s m below meth c ls C hw hl => k_X0_getDry C M t0 a1 a2 M' h _ _ _ ht0 hw (lv_sub hl [0, 1, 2] rfl))
theorem cy_X0_getDry : cl_cy yX0_getDry cX0_getDry 5 none 2 := ⟨in_ClothesLine_Garment, cd_X0_getDry, by decide +kernel, by decide +kernel, by decide +kernel⟩
theorem vy_X0_getDry : cl_vy yX0_getDry := ⟨im_X0_getDry, se_X0_getDry⟩
def f_X0_takeSmell (M : cl_M) (t0 : Nat) (a1 : Int32) (a2 : Int32) : Option (cl_M) := if (a1 &&& (M t0 8)) = 0 then if a2 = 0 then some M else cl_let (cl_ms M t0 4 (if ((M t0 4) - 1) < 0 then 0 else ((M t0 4) - 1))) (fun M3 => some M3) else cl_let (cl_ms M t0 4 (if 99 < ((M t0 4) + 1) then 99 else ((M t0 4) + 1))) (fun M4 => some M4)
set_option maxHeartbeats 4000000 in
set_option maxRecDepth 100000 in
theorem k_X0_takeSmell {p : Program} {l : Launch} {e : Env} {s : State} {m : MethodId} {args : Array Value} {below : List Frame} {meth : Method} {c : Code} {dd : cl_D} {b : Nat} (C : cl_C p l s m args meth c cX0_takeSmell RX0 3 none dd b) : ∀ (M : cl_M) (t0 : Nat) (a1 : Int32) (a2 : Int32) (M' : cl_M), f_X0_takeSmell M t0 a1 a2 = some M' → ∀ (H : Heap) (locs : List Loc) (ls : Array Slot), cl_sh dd t0 = 0 → cl_H dd b M s H locs → lv_has ls 3 [(0, .ref (b + t0)), (1, .int a1), (2, .int a2)] → W p l e { frames := 1, cells := 0, slots := 0, locals := 14 } s m args below meth c H locs 0 0 (cl_Zv below args s dd b M') (F0 m 0 ls []) := by
  have hx := C.1
  have hb := C.2.1
  have hlt := C.2.2.2.2.2.2.2.2.2.2
  have hRr := C.2.2.2.2.2.2.2.2.2.1
  intro M t0 a1 a2 M' hf H locs ls ht0 hw hl
  unfold f_X0_takeSmell at hf
  refine lv_iload_n hx hb dX0_takeSmell_0 rfl (lv_at hl 1 rfl) ?_
  refine lv_aload_n hx hb dX0_takeSmell_1 rfl (lv_at hl 0 rfl) ?_
  refine fg_X0_53 C hw ht0 dX0_takeSmell_2 ?_
  refine lv_iand hx hb dX0_takeSmell_5 ?_
  refine lv_if_eq (tgt := 27) hx hb dX0_takeSmell_6 (by decide) (fun c1 => ?_) (fun c1 => ?_)
  · have hf := cl_yes c1 hf
    refine lv_iload_n hx hb dX0_takeSmell_27 rfl (lv_at hl 2 rfl) ?_
    refine lv_if_eq (tgt := 45) hx hb dX0_takeSmell_28 (by decide) (fun c2 => ?_) (fun c2 => ?_)
    · have hf := cl_yes c2 hf
      obtain rfl := Option.some.inj hf
      exact cr_retv C hw dX0_takeSmell_45
    · have hf := cl_no c2 hf
      refine lv_aload_n hx hb dX0_takeSmell_31 rfl (lv_at hl 0 rfl) ?_
      refine lv_aload_n hx hb dX0_takeSmell_32 rfl (lv_at hl 0 rfl) ?_
      refine fg_X0_27 C hw ht0 dX0_takeSmell_33 ?_
      refine lv_iconst (v := 1) hx hb dX0_takeSmell_36 (by decide) ?_
      refine lv_isub hx hb dX0_takeSmell_37 ?_
      refine lv_iconst (v := 0) hx hb dX0_takeSmell_38 (by decide) ?_
      refine cr_max C ml_X0_83 st_math_max in_math cd_math_max hl.1 ⟨Nat.le_of_ble_eq_true rfl, Nat.le_of_ble_eq_true rfl, Nat.le_of_ble_eq_true rfl, Nat.le_of_ble_eq_true rfl⟩ dX0_takeSmell_39 ?_
      obtain ⟨M3, eM3, hf⟩ := cl_let_e hf
      refine fp_X0_27 C hw ht0 eM3 dX0_takeSmell_42 (fun H locs hw => ?_)
      obtain rfl := Option.some.inj hf
      exact cr_retv C hw dX0_takeSmell_45
  · have hf := cl_no c1 hf
    refine lv_aload_n hx hb dX0_takeSmell_9 rfl (lv_at hl 0 rfl) ?_
    refine lv_aload_n hx hb dX0_takeSmell_10 rfl (lv_at hl 0 rfl) ?_
    refine fg_X0_27 C hw ht0 dX0_takeSmell_11 ?_
    refine lv_iconst (v := 1) hx hb dX0_takeSmell_14 (by decide) ?_
    refine lv_iadd hx hb dX0_takeSmell_15 ?_
    refine lv_bipush (v := 99) hx hb dX0_takeSmell_16 (by decide) ?_
    refine cr_min C ml_X0_72 st_math_min in_math cd_math_min hl.1 ⟨Nat.le_of_ble_eq_true rfl, Nat.le_of_ble_eq_true rfl, Nat.le_of_ble_eq_true rfl, Nat.le_of_ble_eq_true rfl⟩ dX0_takeSmell_18 ?_
    obtain ⟨M4, eM4, hf⟩ := cl_let_e hf
    refine fp_X0_27 C hw ht0 eM4 dX0_takeSmell_21 (fun H locs hw => ?_)
    refine lv_goto (tgt := 45) hx hb dX0_takeSmell_24 (by decide) ?_
    obtain rfl := Option.some.inj hf
    exact cr_retv C hw dX0_takeSmell_45
set_option maxRecDepth 100000 in
theorem c_X0_takeSmell {l : Launch} {dd : cl_D} {b : Nat} (hlt : l.stackTraces = false) {M : cl_M} {t0 : Nat} {a1 : Int32} {a2 : Int32}  {M' : cl_M} (ht0 : cl_sh dd t0 = 0) (h : f_X0_takeSmell M t0 a1 a2 = some M') : cl_Mv l dd b yX0_takeSmell cX0_takeSmell 3 none 1 14 [.ref (b + t0), .int a1, .int a2] M M' :=
  cl_of hlt (by decide) (Nat.le_of_ble_eq_true rfl) (fun p e s m below meth c ls C hw hl => k_X0_takeSmell C M t0 a1 a2 M' h _ _ _ ht0 hw (lv_sub hl [0, 1, 2] rfl))
theorem cy_X0_takeSmell : cl_cy yX0_takeSmell cX0_takeSmell 3 none 2 := ⟨in_ClothesLine_Garment, cd_X0_takeSmell, by decide +kernel, by decide +kernel, by decide +kernel⟩
theorem vy_X0_takeSmell : cl_vy yX0_takeSmell := ⟨im_X0_takeSmell, se_X0_takeSmell⟩
def f_X0_fall (M : cl_M) (t0 : Nat) : Option (cl_M) := (f_X0_putInto M t0 2).bind (fun M1 => cl_let (cl_ms M1 t0 5 1) (fun M3 => cl_let (cl_ms M3 t0 11 ((M3 t0 11) + 1)) (fun M4 => some M4)))
set_option maxHeartbeats 4000000 in
set_option maxRecDepth 100000 in
theorem k_X0_fall {p : Program} {l : Launch} {e : Env} {s : State} {m : MethodId} {args : Array Value} {below : List Frame} {meth : Method} {c : Code} {dd : cl_D} {b : Nat} (C : cl_C p l s m args meth c cX0_fall RX0 1 none dd b) : ∀ (M : cl_M) (t0 : Nat) (M' : cl_M), f_X0_fall M t0 = some M' → ∀ (H : Heap) (locs : List Loc) (ls : Array Slot), cl_sh dd t0 = 0 → cl_H dd b M s H locs → lv_has ls 1 [(0, .ref (b + t0))] → W p l e { frames := 1, cells := 0, slots := 0, locals := 21 } s m args below meth c H locs 0 0 (cl_Zv below args s dd b M') (F0 m 0 ls []) := by
  have hx := C.1
  have hb := C.2.1
  have hlt := C.2.2.2.2.2.2.2.2.2.2
  have hRr := C.2.2.2.2.2.2.2.2.2.1
  intro M t0 M' hf H locs ls ht0 hw hl
  unfold f_X0_fall at hf
  refine lv_aload_n hx hb dX0_fall_0 rfl (lv_at hl 0 rfl) ?_
  refine lv_iconst (v := 2) hx hb dX0_fall_1 (by decide) ?_
  obtain ⟨M1, e2, hf⟩ := cl_bind_e hf
  refine cr_Vv C hw (c_X0_putInto hlt ht0 e2) cy_X0_putInto vy_X0_putInto ml_X0_46 (cl_lt ht0 (by decide)) (cl_e0 ht0) rfl rfl (As := [.int 2]) rfl hl.1 rfl ⟨⟨Nat.le_of_ble_eq_true rfl, Nat.le_of_ble_eq_true rfl⟩, Nat.le_of_ble_eq_true rfl, Nat.le_of_ble_eq_true rfl, Nat.le_of_ble_eq_true rfl⟩ dX0_fall_2 (fun H locs hw => ?_)
  refine lv_aload_n hx hb dX0_fall_5 rfl (lv_at hl 0 rfl) ?_
  refine lv_iconst (v := 1) hx hb dX0_fall_6 (by decide) ?_
  obtain ⟨M3, eM3, hf⟩ := cl_let_e hf
  refine fp_X0_30 C hw ht0 (by decide) eM3 dX0_fall_7 (fun H locs hw => ?_)
  refine lv_aload_n hx hb dX0_fall_10 rfl (lv_at hl 0 rfl) ?_
  refine lv_dup hx hb dX0_fall_11 rfl ?_
  refine fg_X0_34 C hw ht0 dX0_fall_12 ?_
  refine lv_iconst (v := 1) hx hb dX0_fall_15 (by decide) ?_
  refine lv_iadd hx hb dX0_fall_16 ?_
  obtain ⟨M4, eM4, hf⟩ := cl_let_e hf
  refine fp_X0_34 C hw ht0 eM4 dX0_fall_17 (fun H locs hw => ?_)
  obtain rfl := Option.some.inj hf
  exact cr_retv C hw dX0_fall_20
set_option maxRecDepth 100000 in
theorem c_X0_fall {l : Launch} {dd : cl_D} {b : Nat} (hlt : l.stackTraces = false) {M : cl_M} {t0 : Nat}  {M' : cl_M} (ht0 : cl_sh dd t0 = 0) (h : f_X0_fall M t0 = some M') : cl_Mv l dd b yX0_fall cX0_fall 1 none 1 21 [.ref (b + t0)] M M' :=
  cl_of hlt (by decide) (Nat.le_of_ble_eq_true rfl) (fun p e s m below meth c ls C hw hl => k_X0_fall C M t0 M' h _ _ _ ht0 hw (lv_sub hl [0] rfl))
theorem cy_X0_fall : cl_cy yX0_fall cX0_fall 1 none 0 := ⟨in_ClothesLine_Garment, cd_X0_fall, by decide +kernel, by decide +kernel, by decide +kernel⟩
theorem vy_X0_fall : cl_vy yX0_fall := ⟨im_X0_fall, se_X0_fall⟩

def f_X2_copyFrom_45 : Nat → cl_M → Nat → Nat → Int32 → Option (cl_M)
  | 0, _, _, _, _ => none
  | k + 1, M, t0, t1, a2 => if (M t0 3) ≤ a2 then some M else if cl_inb a2 10 = true then if cl_inb a2 10 = true then (f_X0_copyFrom M ((t0 + 8) + 1 + (a2).toNatClampNeg) ((t1 + 8) + 1 + (a2).toNatClampNeg)).bind (fun M10 => cl_let (a2 + 1) (fun v12 => f_X2_copyFrom_45 k M10 t0 t1 v12)) else none else none
set_option maxHeartbeats 4000000 in
set_option maxRecDepth 100000 in
theorem k_X2_copyFrom_45 {p : Program} {l : Launch} {e : Env} {s : State} {m : MethodId} {args : Array Value} {below : List Frame} {meth : Method} {c : Code} {dd : cl_D} {b : Nat} (C : cl_C p l s m args meth c cX2_copyFrom RX2 3 none dd b) : ∀ (k : Nat), ∀ (M : cl_M) (t0 : Nat) (t1 : Nat) (a2 : Int32) (M' : cl_M), f_X2_copyFrom_45 k M t0 t1 a2 = some M' → ∀ (H : Heap) (locs : List Loc) (ls : Array Slot), cl_sh dd t0 = 2 → cl_sh dd t1 = 2 → cl_H dd b M s H locs → lv_has ls 3 [(0, .ref (b + t0)), (1, .ref (b + t1)), (2, .int a2)] → W p l e { frames := 2, cells := 0, slots := 0, locals := 81 } s m args below meth c H locs 0 0 (cl_Zv below args s dd b M') (F0 m 45 ls []) := by
  have hx := C.1
  have hb := C.2.1
  have hlt := C.2.2.2.2.2.2.2.2.2.2
  have hRr := C.2.2.2.2.2.2.2.2.2.1
  intro k
  induction k with
  | zero =>
    intro M t0 t1 a2 M' hf H locs ls ht0 ht1 hw hl
    rw [f_X2_copyFrom_45] at hf
    cases hf
  | succ k ih =>
    intro M t0 t1 a2 M' hf H locs ls ht0 ht1 hw hl
    rw [f_X2_copyFrom_45] at hf
    refine lv_iload_n hx hb dX2_copyFrom_45 rfl (lv_at hl 2 rfl) ?_
    refine lv_aload_n hx hb dX2_copyFrom_46 rfl (lv_at hl 0 rfl) ?_
    refine fg_X2_35 C hw ht0 dX2_copyFrom_47 ?_
    refine lv_icmp_ge (tgt := 74) hx hb dX2_copyFrom_50 (by decide) (fun c7 => ?_) (fun c7 => ?_)
    · have hf := cl_yes c7 hf
      obtain rfl := Option.some.inj hf
      exact cr_retv C hw dX2_copyFrom_74
    · have hf := cl_no c7 hf
      refine lv_aload_n hx hb dX2_copyFrom_53 rfl (lv_at hl 0 rfl) ?_
      refine fg_X2_20 C hw ht0 dX2_copyFrom_54 ?_
      refine lv_iload_n hx hb dX2_copyFrom_57 rfl (lv_at hl 2 rfl) ?_
      obtain ⟨q8, hf⟩ := cl_grd hf
      refine cr_ald9 C hw (sh_2_5 ht0).1 q8 (k := (a2).toNatClampNeg) rfl dX2_copyFrom_58 ?_
      refine lv_aload_n hx hb dX2_copyFrom_59 rfl (lv_at hl 1 rfl) ?_
      refine fg_X2_20 C hw ht1 dX2_copyFrom_60 ?_
      refine lv_iload_n hx hb dX2_copyFrom_63 rfl (lv_at hl 2 rfl) ?_
      obtain ⟨q9, hf⟩ := cl_grd hf
      refine cr_ald9 C hw (sh_2_5 ht1).1 q9 (k := (a2).toNatClampNeg) rfl dX2_copyFrom_64 ?_
      obtain ⟨M10, e11, hf⟩ := cl_bind_e hf
      refine cr_Vv C hw (c_X0_copyFrom hlt (sh_el_9 (sh_2_5 ht0).1 (cl_inb_lt q8)) (sh_el_9 (sh_2_5 ht1).1 (cl_inb_lt q9)) e11) cy_X0_copyFrom vy_X0_copyFrom ml_X2_46 (cl_lt (sh_el_9 (sh_2_5 ht0).1 (cl_inb_lt q8)) (by decide)) (cl_e0 (sh_el_9 (sh_2_5 ht0).1 (cl_inb_lt q8))) rfl rfl (As := [.ref (b + ((t1 + 8) + 1 + (a2).toNatClampNeg))]) rfl hl.1 rfl ⟨⟨Nat.le_of_ble_eq_true rfl, Nat.le_of_ble_eq_true rfl⟩, Nat.le_of_ble_eq_true rfl, Nat.le_of_ble_eq_true rfl, Nat.le_of_ble_eq_true rfl⟩ dX2_copyFrom_65 (fun H locs hw => ?_)
      obtain ⟨v12, ev12, hf⟩ := cl_let_e hf
      refine lv_iinc (v := v12) (lv' := [(2, .int v12), (0, .ref (b + t0)), (1, .ref (b + t1))]) hx hb dX2_copyFrom_68 hl (k := 2) rfl (by rw [ev12]; rfl) (by decide) rfl (fun ls hl => ?_)
      refine lv_goto (tgt := 45) hx hb dX2_copyFrom_71 (by decide) ?_
      exact ih M10 t0 t1 v12 _ hf _ _ _ ht0 ht1 hw (lv_sub hl [1, 2, 0] rfl)
def f_X2_copyFrom (M : cl_M) (t0 : Nat) (t1 : Nat) : Option (cl_M) := cl_let (cl_ms M t0 0 (M t1 0)) (fun M1 => cl_let (cl_ms M1 t0 1 (M1 t1 1)) (fun M2 => cl_let (cl_ms M2 t0 2 (M2 t1 2)) (fun M3 => cl_let (cl_ms M3 t0 3 (M3 t1 3)) (fun M4 => (f_X4_copyFrom M4 (t0 + 1) (t1 + 1)).bind (fun M5 => f_X2_copyFrom_45 cl_F M5 t0 t1 0)))))
set_option maxHeartbeats 4000000 in
set_option maxRecDepth 100000 in
theorem k_X2_copyFrom {p : Program} {l : Launch} {e : Env} {s : State} {m : MethodId} {args : Array Value} {below : List Frame} {meth : Method} {c : Code} {dd : cl_D} {b : Nat} (C : cl_C p l s m args meth c cX2_copyFrom RX2 3 none dd b) : ∀ (M : cl_M) (t0 : Nat) (t1 : Nat) (M' : cl_M), f_X2_copyFrom M t0 t1 = some M' → ∀ (H : Heap) (locs : List Loc) (ls : Array Slot), cl_sh dd t0 = 2 → cl_sh dd t1 = 2 → cl_H dd b M s H locs → lv_has ls 3 [(0, .ref (b + t0)), (1, .ref (b + t1))] → W p l e { frames := 2, cells := 0, slots := 0, locals := 81 } s m args below meth c H locs 0 0 (cl_Zv below args s dd b M') (F0 m 0 ls []) := by
  have hx := C.1
  have hb := C.2.1
  have hlt := C.2.2.2.2.2.2.2.2.2.2
  have hRr := C.2.2.2.2.2.2.2.2.2.1
  intro M t0 t1 M' hf H locs ls ht0 ht1 hw hl
  unfold f_X2_copyFrom at hf
  refine lv_aload_n hx hb dX2_copyFrom_0 rfl (lv_at hl 0 rfl) ?_
  refine lv_aload_n hx hb dX2_copyFrom_1 rfl (lv_at hl 1 rfl) ?_
  refine fg_X2_25 C hw ht1 dX2_copyFrom_2 ?_
  obtain ⟨M1, eM1, hf⟩ := cl_let_e hf
  refine fp_X2_25 C hw ht0 eM1 dX2_copyFrom_5 (fun H locs hw => ?_)
  refine lv_aload_n hx hb dX2_copyFrom_8 rfl (lv_at hl 0 rfl) ?_
  refine lv_aload_n hx hb dX2_copyFrom_9 rfl (lv_at hl 1 rfl) ?_
  refine fg_X2_29 C hw ht1 dX2_copyFrom_10 ?_
  obtain ⟨M2, eM2, hf⟩ := cl_let_e hf
  refine fp_X2_29 C hw ht0 eM2 dX2_copyFrom_13 (fun H locs hw => ?_)
  refine lv_aload_n hx hb dX2_copyFrom_16 rfl (lv_at hl 0 rfl) ?_
  refine lv_aload_n hx hb dX2_copyFrom_17 rfl (lv_at hl 1 rfl) ?_
  refine fg_X2_32 C hw ht1 dX2_copyFrom_18 ?_
  obtain ⟨M3, eM3, hf⟩ := cl_let_e hf
  refine fp_X2_32 C hw ht0 eM3 dX2_copyFrom_21 (fun H locs hw => ?_)
  refine lv_aload_n hx hb dX2_copyFrom_24 rfl (lv_at hl 0 rfl) ?_
  refine lv_aload_n hx hb dX2_copyFrom_25 rfl (lv_at hl 1 rfl) ?_
  refine fg_X2_35 C hw ht1 dX2_copyFrom_26 ?_
  obtain ⟨M4, eM4, hf⟩ := cl_let_e hf
  refine fp_X2_35 C hw ht0 eM4 dX2_copyFrom_29 (fun H locs hw => ?_)
  refine lv_aload_n hx hb dX2_copyFrom_32 rfl (lv_at hl 0 rfl) ?_
  refine fg_X2_12 C hw ht0 dX2_copyFrom_33 ?_
  refine lv_aload_n hx hb dX2_copyFrom_36 rfl (lv_at hl 1 rfl) ?_
  refine fg_X2_12 C hw ht1 dX2_copyFrom_37 ?_
  obtain ⟨M5, e6, hf⟩ := cl_bind_e hf
  refine cr_Vv C hw (c_X4_copyFrom hlt (sh_2_4 ht0).1 (sh_2_4 ht1).1 e6) cy_X4_copyFrom vy_X4_copyFrom ml_X2_42 (cl_lt (sh_2_4 ht0).1 (by decide)) (cl_e4 (sh_2_4 ht0).1) rfl rfl (As := [.ref (b + (t1 + 1))]) rfl hl.1 rfl ⟨⟨Nat.le_of_ble_eq_true rfl, Nat.le_of_ble_eq_true rfl⟩, Nat.le_of_ble_eq_true rfl, Nat.le_of_ble_eq_true rfl, Nat.le_of_ble_eq_true rfl⟩ dX2_copyFrom_40 (fun H locs hw => ?_)
  refine lv_iconst (v := 0) hx hb dX2_copyFrom_43 (by decide) ?_
  refine lv_istore_n (lv' := [(2, .int 0), (0, .ref (b + t0)), (1, .ref (b + t1))]) hx hb dX2_copyFrom_44 rfl hl (by decide) rfl (fun ls hl => ?_)
  exact k_X2_copyFrom_45 C cl_F M5 t0 t1 0 _ hf _ _ _ ht0 ht1 hw (lv_sub hl [1, 2, 0] rfl)
set_option maxRecDepth 100000 in
theorem c_X2_copyFrom {l : Launch} {dd : cl_D} {b : Nat} (hlt : l.stackTraces = false) {M : cl_M} {t0 : Nat} {t1 : Nat}  {M' : cl_M} (ht0 : cl_sh dd t0 = 2) (ht1 : cl_sh dd t1 = 2) (h : f_X2_copyFrom M t0 t1 = some M') : cl_Mv l dd b yX2_copyFrom cX2_copyFrom 3 none 2 81 [.ref (b + t0), .ref (b + t1)] M M' :=
  cl_of hlt (by decide) (Nat.le_of_ble_eq_true rfl) (fun p e s m below meth c ls C hw hl => k_X2_copyFrom C M t0 t1 M' h _ _ _ ht0 ht1 hw (lv_sub hl [0, 1] rfl))
theorem cy_X2_copyFrom : cl_cy yX2_copyFrom cX2_copyFrom 3 none 1 := ⟨in_ClothesLine_Line, cd_X2_copyFrom, by decide +kernel, by decide +kernel, by decide +kernel⟩
theorem vy_X2_copyFrom : cl_vy yX2_copyFrom := ⟨im_X2_copyFrom, se_X2_copyFrom⟩
def f_X2_clear (M : cl_M) (t0 : Nat) (a1 : Int32) (a2 : Int32) (a3 : Int32) : Option (cl_M) := cl_let (cl_ms M t0 0 a1) (fun M1 => cl_let (cl_ms M1 t0 1 a2) (fun M2 => cl_let (cl_ms M2 t0 2 0) (fun M3 => cl_let (cl_ms M3 t0 3 0) (fun M4 => (f_X4_clear M4 (t0 + 1) a3).bind (fun M5 => some M5)))))
set_option maxHeartbeats 4000000 in
set_option maxRecDepth 100000 in
theorem k_X2_clear {p : Program} {l : Launch} {e : Env} {s : State} {m : MethodId} {args : Array Value} {below : List Frame} {meth : Method} {c : Code} {dd : cl_D} {b : Nat} (C : cl_C p l s m args meth c cX2_clear RX2 4 none dd b) : ∀ (M : cl_M) (t0 : Nat) (a1 : Int32) (a2 : Int32) (a3 : Int32) (M' : cl_M), f_X2_clear M t0 a1 a2 a3 = some M' → ∀ (H : Heap) (locs : List Loc) (ls : Array Slot), cl_sh dd t0 = 2 → cl_H dd b M s H locs → lv_has ls 4 [(0, .ref (b + t0)), (1, .int a1), (2, .int a2), (3, .int a3)] → W p l e { frames := 1, cells := 0, slots := 0, locals := 21 } s m args below meth c H locs 0 0 (cl_Zv below args s dd b M') (F0 m 0 ls []) := by
  have hx := C.1
  have hb := C.2.1
  have hlt := C.2.2.2.2.2.2.2.2.2.2
  have hRr := C.2.2.2.2.2.2.2.2.2.1
  intro M t0 a1 a2 a3 M' hf H locs ls ht0 hw hl
  unfold f_X2_clear at hf
  refine lv_aload_n hx hb dX2_clear_0 rfl (lv_at hl 0 rfl) ?_
  refine lv_iload_n hx hb dX2_clear_1 rfl (lv_at hl 1 rfl) ?_
  obtain ⟨M1, eM1, hf⟩ := cl_let_e hf
  refine fp_X2_25 C hw ht0 eM1 dX2_clear_2 (fun H locs hw => ?_)
  refine lv_aload_n hx hb dX2_clear_5 rfl (lv_at hl 0 rfl) ?_
  refine lv_iload_n hx hb dX2_clear_6 rfl (lv_at hl 2 rfl) ?_
  obtain ⟨M2, eM2, hf⟩ := cl_let_e hf
  refine fp_X2_29 C hw ht0 eM2 dX2_clear_7 (fun H locs hw => ?_)
  refine lv_aload_n hx hb dX2_clear_10 rfl (lv_at hl 0 rfl) ?_
  refine lv_iconst (v := 0) hx hb dX2_clear_11 (by decide) ?_
  obtain ⟨M3, eM3, hf⟩ := cl_let_e hf
  refine fp_X2_32 C hw ht0 eM3 dX2_clear_12 (fun H locs hw => ?_)
  refine lv_aload_n hx hb dX2_clear_15 rfl (lv_at hl 0 rfl) ?_
  refine lv_iconst (v := 0) hx hb dX2_clear_16 (by decide) ?_
  obtain ⟨M4, eM4, hf⟩ := cl_let_e hf
  refine fp_X2_35 C hw ht0 eM4 dX2_clear_17 (fun H locs hw => ?_)
  refine lv_aload_n hx hb dX2_clear_20 rfl (lv_at hl 0 rfl) ?_
  refine fg_X2_12 C hw ht0 dX2_clear_21 ?_
  refine lv_iload_n hx hb dX2_clear_24 rfl (lv_at hl 3 rfl) ?_
  obtain ⟨M5, e6, hf⟩ := cl_bind_e hf
  refine cr_Vv C hw (c_X4_clear hlt (sh_2_4 ht0).1 e6) cy_X4_clear vy_X4_clear ml_X2_38 (cl_lt (sh_2_4 ht0).1 (by decide)) (cl_e4 (sh_2_4 ht0).1) rfl rfl (As := [.int a3]) rfl hl.1 rfl ⟨⟨Nat.le_of_ble_eq_true rfl, Nat.le_of_ble_eq_true rfl⟩, Nat.le_of_ble_eq_true rfl, Nat.le_of_ble_eq_true rfl, Nat.le_of_ble_eq_true rfl⟩ dX2_clear_25 (fun H locs hw => ?_)
  obtain rfl := Option.some.inj hf
  exact cr_retv C hw dX2_clear_28
set_option maxRecDepth 100000 in
theorem c_X2_clear {l : Launch} {dd : cl_D} {b : Nat} (hlt : l.stackTraces = false) {M : cl_M} {t0 : Nat} {a1 : Int32} {a2 : Int32} {a3 : Int32}  {M' : cl_M} (ht0 : cl_sh dd t0 = 2) (h : f_X2_clear M t0 a1 a2 a3 = some M') : cl_Mv l dd b yX2_clear cX2_clear 4 none 1 21 [.ref (b + t0), .int a1, .int a2, .int a3] M M' :=
  cl_of hlt (by decide) (Nat.le_of_ble_eq_true rfl) (fun p e s m below meth c ls C hw hl => k_X2_clear C M t0 a1 a2 a3 M' h _ _ _ ht0 hw (lv_sub hl [0, 1, 2, 3] rfl))
theorem cy_X2_clear : cl_cy yX2_clear cX2_clear 4 none 3 := ⟨in_ClothesLine_Line, cd_X2_clear, by decide +kernel, by decide +kernel, by decide +kernel⟩
theorem vy_X2_clear : cl_vy yX2_clear := ⟨im_X2_clear, se_X2_clear⟩
def f_X2_copyWithOne (M : cl_M) (t0 : Nat) (t1 : Nat) (t2 : Nat) : Option (Nat × cl_M) := cl_let (cl_ms M t0 2 (M t1 2)) (fun M1 => cl_let (cl_ms M1 t0 3 1) (fun M2 => (f_X4_copyFrom M2 (t0 + 1) (t1 + 1)).bind (fun M3 => (f_X0_copyFrom M3 ((t0 + 8) + 1 + 0) t2).bind (fun M5 => some ((t0 + 8) + 1 + 0, M5)))))
set_option maxHeartbeats 4000000 in
set_option maxRecDepth 100000 in
theorem k_X2_copyWithOne {p : Program} {l : Launch} {e : Env} {s : State} {m : MethodId} {args : Array Value} {below : List Frame} {meth : Method} {c : Code} {dd : cl_D} {b : Nat} (C : cl_C p l s m args meth c cX2_copyWithOne RX2 3 (some (.object "ClothesLine$Garment")) dd b) : ∀ (M : cl_M) (t0 : Nat) (t1 : Nat) (t2 : Nat) (r : Nat) (M' : cl_M), f_X2_copyWithOne M t0 t1 t2 = some (r, M') → ∀ (H : Heap) (locs : List Loc) (ls : Array Slot), cl_sh dd t0 = 2 → cl_sh dd t1 = 2 → cl_sh dd t2 = 0 → cl_H dd b M s H locs → lv_has ls 3 [(0, .ref (b + t0)), (1, .ref (b + t1)), (2, .ref (b + t2))] → W p l e { frames := 2, cells := 0, slots := 0, locals := 81 } s m args below meth c H locs 0 0 (cl_Zr below args s dd b r M') (F0 m 0 ls []) := by
  have hx := C.1
  have hb := C.2.1
  have hlt := C.2.2.2.2.2.2.2.2.2.2
  have hRr := C.2.2.2.2.2.2.2.2.2.1
  intro M t0 t1 t2 r M' hf H locs ls ht0 ht1 ht2 hw hl
  unfold f_X2_copyWithOne at hf
  refine lv_aload_n hx hb dX2_copyWithOne_0 rfl (lv_at hl 0 rfl) ?_
  refine lv_aload_n hx hb dX2_copyWithOne_1 rfl (lv_at hl 1 rfl) ?_
  refine fg_X2_32 C hw ht1 dX2_copyWithOne_2 ?_
  obtain ⟨M1, eM1, hf⟩ := cl_let_e hf
  refine fp_X2_32 C hw ht0 eM1 dX2_copyWithOne_5 (fun H locs hw => ?_)
  refine lv_aload_n hx hb dX2_copyWithOne_8 rfl (lv_at hl 0 rfl) ?_
  refine lv_iconst (v := 1) hx hb dX2_copyWithOne_9 (by decide) ?_
  obtain ⟨M2, eM2, hf⟩ := cl_let_e hf
  refine fp_X2_35 C hw ht0 eM2 dX2_copyWithOne_10 (fun H locs hw => ?_)
  refine lv_aload_n hx hb dX2_copyWithOne_13 rfl (lv_at hl 0 rfl) ?_
  refine fg_X2_12 C hw ht0 dX2_copyWithOne_14 ?_
  refine lv_aload_n hx hb dX2_copyWithOne_17 rfl (lv_at hl 1 rfl) ?_
  refine fg_X2_12 C hw ht1 dX2_copyWithOne_18 ?_
  obtain ⟨M3, e4, hf⟩ := cl_bind_e hf
  refine cr_Vv C hw (c_X4_copyFrom hlt (sh_2_4 ht0).1 (sh_2_4 ht1).1 e4) cy_X4_copyFrom vy_X4_copyFrom ml_X2_42 (cl_lt (sh_2_4 ht0).1 (by decide)) (cl_e4 (sh_2_4 ht0).1) rfl rfl (As := [.ref (b + (t1 + 1))]) rfl hl.1 rfl ⟨⟨Nat.le_of_ble_eq_true rfl, Nat.le_of_ble_eq_true rfl⟩, Nat.le_of_ble_eq_true rfl, Nat.le_of_ble_eq_true rfl, Nat.le_of_ble_eq_true rfl⟩ dX2_copyWithOne_21 (fun H locs hw => ?_)
  refine lv_aload_n hx hb dX2_copyWithOne_24 rfl (lv_at hl 0 rfl) ?_
  refine fg_X2_20 C hw ht0 dX2_copyWithOne_25 ?_
  refine lv_iconst (v := 0) hx hb dX2_copyWithOne_28 (by decide) ?_
  refine cr_ald9 C hw (sh_2_5 ht0).1 (by decide) (k := 0) rfl dX2_copyWithOne_29 ?_
  refine lv_aload_n hx hb dX2_copyWithOne_30 rfl (lv_at hl 2 rfl) ?_
  obtain ⟨M5, e6, hf⟩ := cl_bind_e hf
  refine cr_Vv C hw (c_X0_copyFrom hlt (sh_el_9 (sh_2_5 ht0).1 (by decide)) ht2 e6) cy_X0_copyFrom vy_X0_copyFrom ml_X2_46 (cl_lt (sh_el_9 (sh_2_5 ht0).1 (by decide)) (by decide)) (cl_e0 (sh_el_9 (sh_2_5 ht0).1 (by decide))) rfl rfl (As := [.ref (b + t2)]) rfl hl.1 rfl ⟨⟨Nat.le_of_ble_eq_true rfl, Nat.le_of_ble_eq_true rfl⟩, Nat.le_of_ble_eq_true rfl, Nat.le_of_ble_eq_true rfl, Nat.le_of_ble_eq_true rfl⟩ dX2_copyWithOne_31 (fun H locs hw => ?_)
  refine lv_aload_n hx hb dX2_copyWithOne_34 rfl (lv_at hl 0 rfl) ?_
  refine fg_X2_20 C hw ht0 dX2_copyWithOne_35 ?_
  refine lv_iconst (v := 0) hx hb dX2_copyWithOne_38 (by decide) ?_
  refine cr_ald9 C hw (sh_2_5 ht0).1 (by decide) (k := 0) rfl dX2_copyWithOne_39 ?_
  obtain ⟨rfl, rfl⟩ := cl_pair hf
  exact cr_retr C hw rfl dX2_copyWithOne_40
set_option maxRecDepth 100000 in
theorem c_X2_copyWithOne {l : Launch} {dd : cl_D} {b : Nat} (hlt : l.stackTraces = false) {M : cl_M} {t0 : Nat} {t1 : Nat} {t2 : Nat}  {r : Nat} {M' : cl_M} (ht0 : cl_sh dd t0 = 2) (ht1 : cl_sh dd t1 = 2) (ht2 : cl_sh dd t2 = 0) (h : f_X2_copyWithOne M t0 t1 t2 = some (r, M')) : cl_Mr l dd b yX2_copyWithOne cX2_copyWithOne 3 (some (.object "ClothesLine$Garment")) 2 81 [.ref (b + t0), .ref (b + t1), .ref (b + t2)] M r M' :=
  cl_of hlt (by decide) (Nat.le_of_ble_eq_true rfl) (fun p e s m below meth c ls C hw hl => k_X2_copyWithOne C M t0 t1 t2 r M' h _ _ _ ht0 ht1 ht2 hw (lv_sub hl [0, 1, 2] rfl))
theorem cy_X2_copyWithOne : cl_cy yX2_copyWithOne cX2_copyWithOne 3 (some (.object "ClothesLine$Garment")) 2 := ⟨in_ClothesLine_Line, cd_X2_copyWithOne, by decide +kernel, by decide +kernel, by decide +kernel⟩
theorem vy_X2_copyWithOne : cl_vy yX2_copyWithOne := ⟨im_X2_copyWithOne, se_X2_copyWithOne⟩
theorem s_X2_copyWithOne {dd : cl_D} {M : cl_M} {t0 t1 t2 g : Nat} {M1 : cl_M} (h0 : cl_sh dd t0 = 2) (_ : cl_sh dd t1 = 2) (_ : cl_sh dd t2 = 0) (h : f_X2_copyWithOne M t0 t1 t2 = some (g, M1)) : cl_sh dd g = 0 := by
  unfold f_X2_copyWithOne at h
  obtain ⟨_, _, h⟩ := cl_let_e h
  obtain ⟨_, _, h⟩ := cl_let_e h
  obtain ⟨_, _, h⟩ := cl_bind_e h
  obtain ⟨_, _, h⟩ := cl_bind_e h
  obtain ⟨rfl, rfl⟩ := cl_pair h
  exact sh_el_9 (sh_2_5 h0).1 (by decide)
def f_X2_append (M : cl_M) (t0 : Nat) (a1 : Int32) (a2 : Int32) (a3 : Int32) (a4 : Int32) : Option (cl_M) := if 10 ≤ (M t0 3) then some M else if cl_inb (M t0 3) 10 = true then (f_X0_makeNew M ((t0 + 8) + 1 + (M t0 3).toNatClampNeg) a1 a2 a3 a4).bind (fun M3 => cl_let (cl_ms M3 t0 3 ((M3 t0 3) + 1)) (fun M5 => some M5)) else none
set_option maxHeartbeats 4000000 in
set_option maxRecDepth 100000 in
theorem k_X2_append {p : Program} {l : Launch} {e : Env} {s : State} {m : MethodId} {args : Array Value} {below : List Frame} {meth : Method} {c : Code} {dd : cl_D} {b : Nat} (C : cl_C p l s m args meth c cX2_append RX2 5 none dd b) : ∀ (M : cl_M) (t0 : Nat) (a1 : Int32) (a2 : Int32) (a3 : Int32) (a4 : Int32) (M' : cl_M), f_X2_append M t0 a1 a2 a3 a4 = some M' → ∀ (H : Heap) (locs : List Loc) (ls : Array Slot), cl_sh dd t0 = 2 → cl_H dd b M s H locs → lv_has ls 5 [(0, .ref (b + t0)), (1, .int a1), (2, .int a2), (3, .int a3), (4, .int a4)] → W p l e { frames := 2, cells := 0, slots := 0, locals := 45 } s m args below meth c H locs 0 0 (cl_Zv below args s dd b M') (F0 m 0 ls []) := by
  have hx := C.1
  have hb := C.2.1
  have hlt := C.2.2.2.2.2.2.2.2.2.2
  have hRr := C.2.2.2.2.2.2.2.2.2.1
  intro M t0 a1 a2 a3 a4 M' hf H locs ls ht0 hw hl
  unfold f_X2_append at hf
  refine lv_aload_n hx hb dX2_append_0 rfl (lv_at hl 0 rfl) ?_
  refine fg_X2_35 C hw ht0 dX2_append_1 ?_
  refine lv_bipush (v := 10) hx hb dX2_append_4 (by decide) ?_
  refine lv_icmp_ge (tgt := 36) hx hb dX2_append_6 (by decide) (fun c1 => ?_) (fun c1 => ?_)
  · have hf := cl_yes c1 hf
    obtain rfl := Option.some.inj hf
    exact cr_retv C hw dX2_append_36
  · have hf := cl_no c1 hf
    refine lv_aload_n hx hb dX2_append_9 rfl (lv_at hl 0 rfl) ?_
    refine fg_X2_20 C hw ht0 dX2_append_10 ?_
    refine lv_aload_n hx hb dX2_append_13 rfl (lv_at hl 0 rfl) ?_
    refine fg_X2_35 C hw ht0 dX2_append_14 ?_
    obtain ⟨q2, hf⟩ := cl_grd hf
    refine cr_ald9 C hw (sh_2_5 ht0).1 q2 (k := (M t0 3).toNatClampNeg) rfl dX2_append_17 ?_
    refine lv_iload_n hx hb dX2_append_18 rfl (lv_at hl 1 rfl) ?_
    refine lv_iload_n hx hb dX2_append_19 rfl (lv_at hl 2 rfl) ?_
    refine lv_iload_n hx hb dX2_append_20 rfl (lv_at hl 3 rfl) ?_
    refine lv_iload hx hb dX2_append_21 (lv_at hl 4 rfl) ?_
    obtain ⟨M3, e4, hf⟩ := cl_bind_e hf
    refine cr_Vv C hw (c_X0_makeNew hlt (sh_el_9 (sh_2_5 ht0).1 (cl_inb_lt q2)) e4) cy_X0_makeNew vy_X0_makeNew ml_X2_49 (cl_lt (sh_el_9 (sh_2_5 ht0).1 (cl_inb_lt q2)) (by decide)) (cl_e0 (sh_el_9 (sh_2_5 ht0).1 (cl_inb_lt q2))) rfl rfl (As := [.int a1, .int a2, .int a3, .int a4]) rfl hl.1 rfl ⟨⟨Nat.le_of_ble_eq_true rfl, Nat.le_of_ble_eq_true rfl⟩, Nat.le_of_ble_eq_true rfl, Nat.le_of_ble_eq_true rfl, Nat.le_of_ble_eq_true rfl⟩ dX2_append_23 (fun H locs hw => ?_)
    refine lv_aload_n hx hb dX2_append_26 rfl (lv_at hl 0 rfl) ?_
    refine lv_dup hx hb dX2_append_27 rfl ?_
    refine fg_X2_35 C hw ht0 dX2_append_28 ?_
    refine lv_iconst (v := 1) hx hb dX2_append_31 (by decide) ?_
    refine lv_iadd hx hb dX2_append_32 ?_
    obtain ⟨M5, eM5, hf⟩ := cl_let_e hf
    refine fp_X2_35 C hw ht0 eM5 dX2_append_33 (fun H locs hw => ?_)
    obtain rfl := Option.some.inj hf
    exact cr_retv C hw dX2_append_36
set_option maxRecDepth 100000 in
theorem c_X2_append {l : Launch} {dd : cl_D} {b : Nat} (hlt : l.stackTraces = false) {M : cl_M} {t0 : Nat} {a1 : Int32} {a2 : Int32} {a3 : Int32} {a4 : Int32}  {M' : cl_M} (ht0 : cl_sh dd t0 = 2) (h : f_X2_append M t0 a1 a2 a3 a4 = some M') : cl_Mv l dd b yX2_append cX2_append 5 none 2 45 [.ref (b + t0), .int a1, .int a2, .int a3, .int a4] M M' :=
  cl_of hlt (by decide) (Nat.le_of_ble_eq_true rfl) (fun p e s m below meth c ls C hw hl => k_X2_append C M t0 a1 a2 a3 a4 M' h _ _ _ ht0 hw (lv_sub hl [0, 1, 2, 3, 4] rfl))
theorem cy_X2_append : cl_cy yX2_append cX2_append 5 none 4 := ⟨in_ClothesLine_Line, cd_X2_append, by decide +kernel, by decide +kernel, by decide +kernel⟩
theorem vy_X2_append : cl_vy yX2_append := ⟨im_X2_append, se_X2_append⟩
def f_X2_woodenInBag_7 : Nat → cl_M → Nat → Int32 → Int32 → Option (Int32)
  | 0, _, _, _, _ => none
  | k + 1, M, t0, a1, a2 => if (M t0 3) ≤ a2 then some a1 else if cl_inb a2 10 = true then cl_let (a1 - (M ((t0 + 8) + 1 + (a2).toNatClampNeg) 9)) (fun v4 => cl_let (a2 + 1) (fun v5 => f_X2_woodenInBag_7 k M t0 v4 v5)) else none
set_option maxHeartbeats 4000000 in
set_option maxRecDepth 100000 in
theorem k_X2_woodenInBag_7 {p : Program} {l : Launch} {e : Env} {s : State} {m : MethodId} {args : Array Value} {below : List Frame} {meth : Method} {c : Code} {dd : cl_D} {b : Nat} (C : cl_C p l s m args meth c cX2_woodenInBag RX2 3 (some .int) dd b) : ∀ (k : Nat), ∀ (M : cl_M) (t0 : Nat) (a1 : Int32) (a2 : Int32) (r : Int32), f_X2_woodenInBag_7 k M t0 a1 a2 = some r → ∀ (H : Heap) (locs : List Loc) (ls : Array Slot), cl_sh dd t0 = 2 → cl_H dd b M s H locs → lv_has ls 3 [(0, .ref (b + t0)), (1, .int a1), (2, .int a2)] → W p l e { frames := 0, cells := 0, slots := 0, locals := 0 } s m args below meth c H locs 0 0 (cl_Zi below args s dd b r M) (F0 m 7 ls []) := by
  have hx := C.1
  have hb := C.2.1
  have hlt := C.2.2.2.2.2.2.2.2.2.2
  have hRr := C.2.2.2.2.2.2.2.2.2.1
  intro k
  induction k with
  | zero =>
    intro M t0 a1 a2 r hf H locs ls ht0 hw hl
    rw [f_X2_woodenInBag_7] at hf
    cases hf
  | succ k ih =>
    intro M t0 a1 a2 r hf H locs ls ht0 hw hl
    rw [f_X2_woodenInBag_7] at hf
    refine lv_iload_n hx hb dX2_woodenInBag_7 rfl (lv_at hl 2 rfl) ?_
    refine lv_aload_n hx hb dX2_woodenInBag_8 rfl (lv_at hl 0 rfl) ?_
    refine fg_X2_35 C hw ht0 dX2_woodenInBag_9 ?_
    refine lv_icmp_ge (tgt := 33) hx hb dX2_woodenInBag_12 (by decide) (fun c2 => ?_) (fun c2 => ?_)
    · have hf := cl_yes c2 hf
      refine lv_iload_n hx hb dX2_woodenInBag_33 rfl (lv_at hl 1 rfl) ?_
      obtain rfl := Option.some.inj hf
      exact cr_reti C hw dX2_woodenInBag_34
    · have hf := cl_no c2 hf
      refine lv_iload_n hx hb dX2_woodenInBag_15 rfl (lv_at hl 1 rfl) ?_
      refine lv_aload_n hx hb dX2_woodenInBag_16 rfl (lv_at hl 0 rfl) ?_
      refine fg_X2_20 C hw ht0 dX2_woodenInBag_17 ?_
      refine lv_iload_n hx hb dX2_woodenInBag_20 rfl (lv_at hl 2 rfl) ?_
      obtain ⟨q3, hf⟩ := cl_grd hf
      refine cr_ald9 C hw (sh_2_5 ht0).1 q3 (k := (a2).toNatClampNeg) rfl dX2_woodenInBag_21 ?_
      refine fg_X2_53 C hw (sh_el_9 (sh_2_5 ht0).1 (cl_inb_lt q3)) dX2_woodenInBag_22 ?_
      refine lv_isub hx hb dX2_woodenInBag_25 ?_
      obtain ⟨v4, ev4, hf⟩ := cl_let_e hf
      refine cr_top ev4 ?_
      refine lv_istore_n (lv' := [(1, .int v4), (0, .ref (b + t0)), (2, .int a2)]) hx hb dX2_woodenInBag_26 rfl hl (by decide) rfl (fun ls hl => ?_)
      obtain ⟨v5, ev5, hf⟩ := cl_let_e hf
      refine lv_iinc (v := v5) (lv' := [(2, .int v5), (1, .int v4), (0, .ref (b + t0))]) hx hb dX2_woodenInBag_27 hl (k := 2) rfl (by rw [ev5]; rfl) (by decide) rfl (fun ls hl => ?_)
      refine lv_goto (tgt := 7) hx hb dX2_woodenInBag_30 (by decide) ?_
      exact ih M t0 v4 v5 _ hf _ _ _ ht0 hw (lv_sub hl [2, 1, 0] rfl)
def f_X2_woodenInBag (M : cl_M) (t0 : Nat) : Option (Int32) := cl_let (M t0 0) (fun v1 => f_X2_woodenInBag_7 cl_F M t0 v1 0)
set_option maxHeartbeats 4000000 in
set_option maxRecDepth 100000 in
theorem k_X2_woodenInBag {p : Program} {l : Launch} {e : Env} {s : State} {m : MethodId} {args : Array Value} {below : List Frame} {meth : Method} {c : Code} {dd : cl_D} {b : Nat} (C : cl_C p l s m args meth c cX2_woodenInBag RX2 3 (some .int) dd b) : ∀ (M : cl_M) (t0 : Nat) (r : Int32), f_X2_woodenInBag M t0 = some r → ∀ (H : Heap) (locs : List Loc) (ls : Array Slot), cl_sh dd t0 = 2 → cl_H dd b M s H locs → lv_has ls 3 [(0, .ref (b + t0))] → W p l e { frames := 0, cells := 0, slots := 0, locals := 0 } s m args below meth c H locs 0 0 (cl_Zi below args s dd b r M) (F0 m 0 ls []) := by
  have hx := C.1
  have hb := C.2.1
  have hlt := C.2.2.2.2.2.2.2.2.2.2
  have hRr := C.2.2.2.2.2.2.2.2.2.1
  intro M t0 r hf H locs ls ht0 hw hl
  unfold f_X2_woodenInBag at hf
  refine lv_aload_n hx hb dX2_woodenInBag_0 rfl (lv_at hl 0 rfl) ?_
  refine fg_X2_25 C hw ht0 dX2_woodenInBag_1 ?_
  obtain ⟨v1, ev1, hf⟩ := cl_let_e hf
  refine cr_top ev1 ?_
  refine lv_istore_n (lv' := [(1, .int v1), (0, .ref (b + t0))]) hx hb dX2_woodenInBag_4 rfl hl (by decide) rfl (fun ls hl => ?_)
  refine lv_iconst (v := 0) hx hb dX2_woodenInBag_5 (by decide) ?_
  refine lv_istore_n (lv' := [(2, .int 0), (1, .int v1), (0, .ref (b + t0))]) hx hb dX2_woodenInBag_6 rfl hl (by decide) rfl (fun ls hl => ?_)
  exact k_X2_woodenInBag_7 C cl_F M t0 v1 0 _ hf _ _ _ ht0 hw (lv_sub hl [2, 1, 0] rfl)
set_option maxRecDepth 100000 in
theorem c_X2_woodenInBag {l : Launch} {dd : cl_D} {b : Nat} (hlt : l.stackTraces = false) {M : cl_M} {t0 : Nat}  {r : Int32} (ht0 : cl_sh dd t0 = 2) (h : f_X2_woodenInBag M t0 = some r) : cl_Mi l dd b yX2_woodenInBag cX2_woodenInBag 3 (some .int) 0 0 [.ref (b + t0)] M r M :=
  cl_of hlt (by decide) (Nat.le_of_ble_eq_true rfl) (fun p e s m below meth c ls C hw hl => k_X2_woodenInBag C M t0 r h _ _ _ ht0 hw (lv_sub hl [0] rfl))
theorem cy_X2_woodenInBag : cl_cy yX2_woodenInBag cX2_woodenInBag 3 (some .int) 0 := ⟨in_ClothesLine_Line, cd_X2_woodenInBag, by decide +kernel, by decide +kernel, by decide +kernel⟩
theorem vy_X2_woodenInBag : cl_vy yX2_woodenInBag := ⟨im_X2_woodenInBag, se_X2_woodenInBag⟩
def f_X2_steelInBag_7 : Nat → cl_M → Nat → Int32 → Int32 → Option (Int32)
  | 0, _, _, _, _ => none
  | k + 1, M, t0, a1, a2 => if (M t0 3) ≤ a2 then some a1 else if cl_inb a2 10 = true then cl_let (a1 - (M ((t0 + 8) + 1 + (a2).toNatClampNeg) 10)) (fun v4 => cl_let (a2 + 1) (fun v5 => f_X2_steelInBag_7 k M t0 v4 v5)) else none
set_option maxHeartbeats 4000000 in
set_option maxRecDepth 100000 in
theorem k_X2_steelInBag_7 {p : Program} {l : Launch} {e : Env} {s : State} {m : MethodId} {args : Array Value} {below : List Frame} {meth : Method} {c : Code} {dd : cl_D} {b : Nat} (C : cl_C p l s m args meth c cX2_steelInBag RX2 3 (some .int) dd b) : ∀ (k : Nat), ∀ (M : cl_M) (t0 : Nat) (a1 : Int32) (a2 : Int32) (r : Int32), f_X2_steelInBag_7 k M t0 a1 a2 = some r → ∀ (H : Heap) (locs : List Loc) (ls : Array Slot), cl_sh dd t0 = 2 → cl_H dd b M s H locs → lv_has ls 3 [(0, .ref (b + t0)), (1, .int a1), (2, .int a2)] → W p l e { frames := 0, cells := 0, slots := 0, locals := 0 } s m args below meth c H locs 0 0 (cl_Zi below args s dd b r M) (F0 m 7 ls []) := by
  have hx := C.1
  have hb := C.2.1
  have hlt := C.2.2.2.2.2.2.2.2.2.2
  have hRr := C.2.2.2.2.2.2.2.2.2.1
  intro k
  induction k with
  | zero =>
    intro M t0 a1 a2 r hf H locs ls ht0 hw hl
    rw [f_X2_steelInBag_7] at hf
    cases hf
  | succ k ih =>
    intro M t0 a1 a2 r hf H locs ls ht0 hw hl
    rw [f_X2_steelInBag_7] at hf
    refine lv_iload_n hx hb dX2_steelInBag_7 rfl (lv_at hl 2 rfl) ?_
    refine lv_aload_n hx hb dX2_steelInBag_8 rfl (lv_at hl 0 rfl) ?_
    refine fg_X2_35 C hw ht0 dX2_steelInBag_9 ?_
    refine lv_icmp_ge (tgt := 33) hx hb dX2_steelInBag_12 (by decide) (fun c2 => ?_) (fun c2 => ?_)
    · have hf := cl_yes c2 hf
      refine lv_iload_n hx hb dX2_steelInBag_33 rfl (lv_at hl 1 rfl) ?_
      obtain rfl := Option.some.inj hf
      exact cr_reti C hw dX2_steelInBag_34
    · have hf := cl_no c2 hf
      refine lv_iload_n hx hb dX2_steelInBag_15 rfl (lv_at hl 1 rfl) ?_
      refine lv_aload_n hx hb dX2_steelInBag_16 rfl (lv_at hl 0 rfl) ?_
      refine fg_X2_20 C hw ht0 dX2_steelInBag_17 ?_
      refine lv_iload_n hx hb dX2_steelInBag_20 rfl (lv_at hl 2 rfl) ?_
      obtain ⟨q3, hf⟩ := cl_grd hf
      refine cr_ald9 C hw (sh_2_5 ht0).1 q3 (k := (a2).toNatClampNeg) rfl dX2_steelInBag_21 ?_
      refine fg_X2_56 C hw (sh_el_9 (sh_2_5 ht0).1 (cl_inb_lt q3)) dX2_steelInBag_22 ?_
      refine lv_isub hx hb dX2_steelInBag_25 ?_
      obtain ⟨v4, ev4, hf⟩ := cl_let_e hf
      refine cr_top ev4 ?_
      refine lv_istore_n (lv' := [(1, .int v4), (0, .ref (b + t0)), (2, .int a2)]) hx hb dX2_steelInBag_26 rfl hl (by decide) rfl (fun ls hl => ?_)
      obtain ⟨v5, ev5, hf⟩ := cl_let_e hf
      refine lv_iinc (v := v5) (lv' := [(2, .int v5), (1, .int v4), (0, .ref (b + t0))]) hx hb dX2_steelInBag_27 hl (k := 2) rfl (by rw [ev5]; rfl) (by decide) rfl (fun ls hl => ?_)
      refine lv_goto (tgt := 7) hx hb dX2_steelInBag_30 (by decide) ?_
      exact ih M t0 v4 v5 _ hf _ _ _ ht0 hw (lv_sub hl [2, 1, 0] rfl)
def f_X2_steelInBag (M : cl_M) (t0 : Nat) : Option (Int32) := cl_let (M t0 1) (fun v1 => f_X2_steelInBag_7 cl_F M t0 v1 0)
set_option maxHeartbeats 4000000 in
set_option maxRecDepth 100000 in
theorem k_X2_steelInBag {p : Program} {l : Launch} {e : Env} {s : State} {m : MethodId} {args : Array Value} {below : List Frame} {meth : Method} {c : Code} {dd : cl_D} {b : Nat} (C : cl_C p l s m args meth c cX2_steelInBag RX2 3 (some .int) dd b) : ∀ (M : cl_M) (t0 : Nat) (r : Int32), f_X2_steelInBag M t0 = some r → ∀ (H : Heap) (locs : List Loc) (ls : Array Slot), cl_sh dd t0 = 2 → cl_H dd b M s H locs → lv_has ls 3 [(0, .ref (b + t0))] → W p l e { frames := 0, cells := 0, slots := 0, locals := 0 } s m args below meth c H locs 0 0 (cl_Zi below args s dd b r M) (F0 m 0 ls []) := by
  have hx := C.1
  have hb := C.2.1
  have hlt := C.2.2.2.2.2.2.2.2.2.2
  have hRr := C.2.2.2.2.2.2.2.2.2.1
  intro M t0 r hf H locs ls ht0 hw hl
  unfold f_X2_steelInBag at hf
  refine lv_aload_n hx hb dX2_steelInBag_0 rfl (lv_at hl 0 rfl) ?_
  refine fg_X2_29 C hw ht0 dX2_steelInBag_1 ?_
  obtain ⟨v1, ev1, hf⟩ := cl_let_e hf
  refine cr_top ev1 ?_
  refine lv_istore_n (lv' := [(1, .int v1), (0, .ref (b + t0))]) hx hb dX2_steelInBag_4 rfl hl (by decide) rfl (fun ls hl => ?_)
  refine lv_iconst (v := 0) hx hb dX2_steelInBag_5 (by decide) ?_
  refine lv_istore_n (lv' := [(2, .int 0), (1, .int v1), (0, .ref (b + t0))]) hx hb dX2_steelInBag_6 rfl hl (by decide) rfl (fun ls hl => ?_)
  exact k_X2_steelInBag_7 C cl_F M t0 v1 0 _ hf _ _ _ ht0 hw (lv_sub hl [2, 1, 0] rfl)
set_option maxRecDepth 100000 in
theorem c_X2_steelInBag {l : Launch} {dd : cl_D} {b : Nat} (hlt : l.stackTraces = false) {M : cl_M} {t0 : Nat}  {r : Int32} (ht0 : cl_sh dd t0 = 2) (h : f_X2_steelInBag M t0 = some r) : cl_Mi l dd b yX2_steelInBag cX2_steelInBag 3 (some .int) 0 0 [.ref (b + t0)] M r M :=
  cl_of hlt (by decide) (Nat.le_of_ble_eq_true rfl) (fun p e s m below meth c ls C hw hl => k_X2_steelInBag C M t0 r h _ _ _ ht0 hw (lv_sub hl [0] rfl))
theorem cy_X2_steelInBag : cl_cy yX2_steelInBag cX2_steelInBag 3 (some .int) 0 := ⟨in_ClothesLine_Line, cd_X2_steelInBag, by decide +kernel, by decide +kernel, by decide +kernel⟩
theorem vy_X2_steelInBag : cl_vy yX2_steelInBag := ⟨im_X2_steelInBag, se_X2_steelInBag⟩
def f_X2_occupied_4 : Nat → cl_M → Nat → Int32 → Int32 → Option (Int32)
  | 0, _, _, _, _ => none
  | k + 1, M, t0, a1, a2 => if (M t0 3) ≤ a2 then some a1 else if cl_inb a2 10 = true then cl_let (a1 ||| (M ((t0 + 8) + 1 + (a2).toNatClampNeg) 8)) (fun v3 => cl_let (a2 + 1) (fun v4 => f_X2_occupied_4 k M t0 v3 v4)) else none
set_option maxHeartbeats 4000000 in
set_option maxRecDepth 100000 in
theorem k_X2_occupied_4 {p : Program} {l : Launch} {e : Env} {s : State} {m : MethodId} {args : Array Value} {below : List Frame} {meth : Method} {c : Code} {dd : cl_D} {b : Nat} (C : cl_C p l s m args meth c cX2_occupied RX2 3 (some .int) dd b) : ∀ (k : Nat), ∀ (M : cl_M) (t0 : Nat) (a1 : Int32) (a2 : Int32) (r : Int32), f_X2_occupied_4 k M t0 a1 a2 = some r → ∀ (H : Heap) (locs : List Loc) (ls : Array Slot), cl_sh dd t0 = 2 → cl_H dd b M s H locs → lv_has ls 3 [(0, .ref (b + t0)), (1, .int a1), (2, .int a2)] → W p l e { frames := 0, cells := 0, slots := 0, locals := 0 } s m args below meth c H locs 0 0 (cl_Zi below args s dd b r M) (F0 m 4 ls []) := by
  have hx := C.1
  have hb := C.2.1
  have hlt := C.2.2.2.2.2.2.2.2.2.2
  have hRr := C.2.2.2.2.2.2.2.2.2.1
  intro k
  induction k with
  | zero =>
    intro M t0 a1 a2 r hf H locs ls ht0 hw hl
    rw [f_X2_occupied_4] at hf
    cases hf
  | succ k ih =>
    intro M t0 a1 a2 r hf H locs ls ht0 hw hl
    rw [f_X2_occupied_4] at hf
    refine lv_iload_n hx hb dX2_occupied_4 rfl (lv_at hl 2 rfl) ?_
    refine lv_aload_n hx hb dX2_occupied_5 rfl (lv_at hl 0 rfl) ?_
    refine fg_X2_35 C hw ht0 dX2_occupied_6 ?_
    refine lv_icmp_ge (tgt := 30) hx hb dX2_occupied_9 (by decide) (fun c1 => ?_) (fun c1 => ?_)
    · have hf := cl_yes c1 hf
      refine lv_iload_n hx hb dX2_occupied_30 rfl (lv_at hl 1 rfl) ?_
      obtain rfl := Option.some.inj hf
      exact cr_reti C hw dX2_occupied_31
    · have hf := cl_no c1 hf
      refine lv_iload_n hx hb dX2_occupied_12 rfl (lv_at hl 1 rfl) ?_
      refine lv_aload_n hx hb dX2_occupied_13 rfl (lv_at hl 0 rfl) ?_
      refine fg_X2_20 C hw ht0 dX2_occupied_14 ?_
      refine lv_iload_n hx hb dX2_occupied_17 rfl (lv_at hl 2 rfl) ?_
      obtain ⟨q2, hf⟩ := cl_grd hf
      refine cr_ald9 C hw (sh_2_5 ht0).1 q2 (k := (a2).toNatClampNeg) rfl dX2_occupied_18 ?_
      refine fg_X2_59 C hw (sh_el_9 (sh_2_5 ht0).1 (cl_inb_lt q2)) dX2_occupied_19 ?_
      refine lv_ior hx hb dX2_occupied_22 ?_
      obtain ⟨v3, ev3, hf⟩ := cl_let_e hf
      refine cr_top ev3 ?_
      refine lv_istore_n (lv' := [(1, .int v3), (0, .ref (b + t0)), (2, .int a2)]) hx hb dX2_occupied_23 rfl hl (by decide) rfl (fun ls hl => ?_)
      obtain ⟨v4, ev4, hf⟩ := cl_let_e hf
      refine lv_iinc (v := v4) (lv' := [(2, .int v4), (1, .int v3), (0, .ref (b + t0))]) hx hb dX2_occupied_24 hl (k := 2) rfl (by rw [ev4]; rfl) (by decide) rfl (fun ls hl => ?_)
      refine lv_goto (tgt := 4) hx hb dX2_occupied_27 (by decide) ?_
      exact ih M t0 v3 v4 _ hf _ _ _ ht0 hw (lv_sub hl [2, 1, 0] rfl)
def f_X2_occupied (M : cl_M) (t0 : Nat) : Option (Int32) := f_X2_occupied_4 cl_F M t0 0 0
set_option maxHeartbeats 4000000 in
set_option maxRecDepth 100000 in
theorem k_X2_occupied {p : Program} {l : Launch} {e : Env} {s : State} {m : MethodId} {args : Array Value} {below : List Frame} {meth : Method} {c : Code} {dd : cl_D} {b : Nat} (C : cl_C p l s m args meth c cX2_occupied RX2 3 (some .int) dd b) : ∀ (M : cl_M) (t0 : Nat) (r : Int32), f_X2_occupied M t0 = some r → ∀ (H : Heap) (locs : List Loc) (ls : Array Slot), cl_sh dd t0 = 2 → cl_H dd b M s H locs → lv_has ls 3 [(0, .ref (b + t0))] → W p l e { frames := 0, cells := 0, slots := 0, locals := 0 } s m args below meth c H locs 0 0 (cl_Zi below args s dd b r M) (F0 m 0 ls []) := by
  have hx := C.1
  have hb := C.2.1
  have hlt := C.2.2.2.2.2.2.2.2.2.2
  have hRr := C.2.2.2.2.2.2.2.2.2.1
  intro M t0 r hf H locs ls ht0 hw hl
  unfold f_X2_occupied at hf
  refine lv_iconst (v := 0) hx hb dX2_occupied_0 (by decide) ?_
  refine lv_istore_n (lv' := [(1, .int 0), (0, .ref (b + t0))]) hx hb dX2_occupied_1 rfl hl (by decide) rfl (fun ls hl => ?_)
  refine lv_iconst (v := 0) hx hb dX2_occupied_2 (by decide) ?_
  refine lv_istore_n (lv' := [(2, .int 0), (1, .int 0), (0, .ref (b + t0))]) hx hb dX2_occupied_3 rfl hl (by decide) rfl (fun ls hl => ?_)
  exact k_X2_occupied_4 C cl_F M t0 0 0 _ hf _ _ _ ht0 hw (lv_sub hl [2, 1, 0] rfl)
set_option maxRecDepth 100000 in
theorem c_X2_occupied {l : Launch} {dd : cl_D} {b : Nat} (hlt : l.stackTraces = false) {M : cl_M} {t0 : Nat}  {r : Int32} (ht0 : cl_sh dd t0 = 2) (h : f_X2_occupied M t0 = some r) : cl_Mi l dd b yX2_occupied cX2_occupied 3 (some .int) 0 0 [.ref (b + t0)] M r M :=
  cl_of hlt (by decide) (Nat.le_of_ble_eq_true rfl) (fun p e s m below meth c ls C hw hl => k_X2_occupied C M t0 r h _ _ _ ht0 hw (lv_sub hl [0] rfl))
theorem cy_X2_occupied : cl_cy yX2_occupied cX2_occupied 3 (some .int) 0 := ⟨in_ClothesLine_Line, cd_X2_occupied, by decide +kernel, by decide +kernel, by decide +kernel⟩
theorem vy_X2_occupied : cl_vy yX2_occupied := ⟨im_X2_occupied, se_X2_occupied⟩
def f_X2_spotsOccupiedTwice_6 : Nat → cl_M → Nat → Int32 → Int32 → Int32 → Option (Int32)
  | 0, _, _, _, _, _ => none
  | k + 1, M, t0, a1, a2, a3 => if (M t0 3) ≤ a3 then (f_J6_bitCount_0f7a4 M a2).bind (fun v2 => some v2) else if cl_inb a3 10 = true then cl_let (a2 ||| (a1 &&& (M ((t0 + 8) + 1 + (a3).toNatClampNeg) 8))) (fun v5 => if cl_inb a3 10 = true then cl_let (a1 ||| (M ((t0 + 8) + 1 + (a3).toNatClampNeg) 8)) (fun v7 => cl_let (a3 + 1) (fun v8 => f_X2_spotsOccupiedTwice_6 k M t0 v7 v5 v8)) else none) else none
set_option maxHeartbeats 4000000 in
set_option maxRecDepth 100000 in
theorem k_X2_spotsOccupiedTwice_6 {p : Program} {l : Launch} {e : Env} {s : State} {m : MethodId} {args : Array Value} {below : List Frame} {meth : Method} {c : Code} {dd : cl_D} {b : Nat} (C : cl_C p l s m args meth c cX2_spotsOccupiedTwice RX2 4 (some .int) dd b) : ∀ (k : Nat), ∀ (M : cl_M) (t0 : Nat) (a1 : Int32) (a2 : Int32) (a3 : Int32) (r : Int32), f_X2_spotsOccupiedTwice_6 k M t0 a1 a2 a3 = some r → ∀ (H : Heap) (locs : List Loc) (ls : Array Slot), cl_sh dd t0 = 2 → cl_H dd b M s H locs → lv_has ls 4 [(0, .ref (b + t0)), (1, .int a1), (2, .int a2), (3, .int a3)] → W p l e { frames := 1, cells := 0, slots := 0, locals := 20 } s m args below meth c H locs 0 0 (cl_Zi below args s dd b r M) (F0 m 6 ls []) := by
  have hx := C.1
  have hb := C.2.1
  have hlt := C.2.2.2.2.2.2.2.2.2.2
  have hRr := C.2.2.2.2.2.2.2.2.2.1
  intro k
  induction k with
  | zero =>
    intro M t0 a1 a2 a3 r hf H locs ls ht0 hw hl
    rw [f_X2_spotsOccupiedTwice_6] at hf
    cases hf
  | succ k ih =>
    intro M t0 a1 a2 a3 r hf H locs ls ht0 hw hl
    rw [f_X2_spotsOccupiedTwice_6] at hf
    refine lv_iload_n hx hb dX2_spotsOccupiedTwice_6 rfl (lv_at hl 3 rfl) ?_
    refine lv_aload_n hx hb dX2_spotsOccupiedTwice_7 rfl (lv_at hl 0 rfl) ?_
    refine fg_X2_35 C hw ht0 dX2_spotsOccupiedTwice_8 ?_
    refine lv_icmp_ge (tgt := 46) hx hb dX2_spotsOccupiedTwice_11 (by decide) (fun c1 => ?_) (fun c1 => ?_)
    · have hf := cl_yes c1 hf
      refine lv_iload_n hx hb dX2_spotsOccupiedTwice_46 rfl (lv_at hl 2 rfl) ?_
      obtain ⟨v2, e3, hf⟩ := cl_bind_e hf
      refine cr_Si C hw (c_J6_bitCount_0f7a4 hlt e3) cy_J6_bitCount_0f7a4 st_J6_bitCount_0f7a4 ml_X2_62 (As := [.int a2]) rfl hl.1 rfl ⟨⟨Nat.le_of_ble_eq_true rfl, Nat.le_of_ble_eq_true rfl⟩, Nat.le_of_ble_eq_true rfl, Nat.le_of_ble_eq_true rfl, Nat.le_of_ble_eq_true rfl⟩ dX2_spotsOccupiedTwice_47 (fun H locs hw => ?_)
      obtain rfl := Option.some.inj hf
      exact cr_reti C hw dX2_spotsOccupiedTwice_50
    · have hf := cl_no c1 hf
      refine lv_iload_n hx hb dX2_spotsOccupiedTwice_14 rfl (lv_at hl 2 rfl) ?_
      refine lv_iload_n hx hb dX2_spotsOccupiedTwice_15 rfl (lv_at hl 1 rfl) ?_
      refine lv_aload_n hx hb dX2_spotsOccupiedTwice_16 rfl (lv_at hl 0 rfl) ?_
      refine fg_X2_20 C hw ht0 dX2_spotsOccupiedTwice_17 ?_
      refine lv_iload_n hx hb dX2_spotsOccupiedTwice_20 rfl (lv_at hl 3 rfl) ?_
      obtain ⟨q4, hf⟩ := cl_grd hf
      refine cr_ald9 C hw (sh_2_5 ht0).1 q4 (k := (a3).toNatClampNeg) rfl dX2_spotsOccupiedTwice_21 ?_
      refine fg_X2_59 C hw (sh_el_9 (sh_2_5 ht0).1 (cl_inb_lt q4)) dX2_spotsOccupiedTwice_22 ?_
      refine lv_iand hx hb dX2_spotsOccupiedTwice_25 ?_
      refine lv_ior hx hb dX2_spotsOccupiedTwice_26 ?_
      obtain ⟨v5, ev5, hf⟩ := cl_let_e hf
      refine cr_top ev5 ?_
      refine lv_istore_n (lv' := [(2, .int v5), (0, .ref (b + t0)), (1, .int a1), (3, .int a3)]) hx hb dX2_spotsOccupiedTwice_27 rfl hl (by decide) rfl (fun ls hl => ?_)
      refine lv_iload_n hx hb dX2_spotsOccupiedTwice_28 rfl (lv_at hl 2 rfl) ?_
      refine lv_aload_n hx hb dX2_spotsOccupiedTwice_29 rfl (lv_at hl 1 rfl) ?_
      refine fg_X2_20 C hw ht0 dX2_spotsOccupiedTwice_30 ?_
      refine lv_iload_n hx hb dX2_spotsOccupiedTwice_33 rfl (lv_at hl 3 rfl) ?_
      obtain ⟨q6, hf⟩ := cl_grd hf
      refine cr_ald9 C hw (sh_2_5 ht0).1 q6 (k := (a3).toNatClampNeg) rfl dX2_spotsOccupiedTwice_34 ?_
      refine fg_X2_59 C hw (sh_el_9 (sh_2_5 ht0).1 (cl_inb_lt q6)) dX2_spotsOccupiedTwice_35 ?_
      refine lv_ior hx hb dX2_spotsOccupiedTwice_38 ?_
      obtain ⟨v7, ev7, hf⟩ := cl_let_e hf
      refine cr_top ev7 ?_
      refine lv_istore_n (lv' := [(1, .int v7), (2, .int v5), (0, .ref (b + t0)), (3, .int a3)]) hx hb dX2_spotsOccupiedTwice_39 rfl hl (by decide) rfl (fun ls hl => ?_)
      obtain ⟨v8, ev8, hf⟩ := cl_let_e hf
      refine lv_iinc (v := v8) (lv' := [(3, .int v8), (1, .int v7), (2, .int v5), (0, .ref (b + t0))]) hx hb dX2_spotsOccupiedTwice_40 hl (k := 3) rfl (by rw [ev8]; rfl) (by decide) rfl (fun ls hl => ?_)
      refine lv_goto (tgt := 6) hx hb dX2_spotsOccupiedTwice_43 (by decide) ?_
      exact ih M t0 v7 v5 v8 _ hf _ _ _ ht0 hw (lv_sub hl [3, 1, 2, 0] rfl)
def f_X2_spotsOccupiedTwice (M : cl_M) (t0 : Nat) : Option (Int32) := f_X2_spotsOccupiedTwice_6 cl_F M t0 0 0 0
set_option maxHeartbeats 4000000 in
set_option maxRecDepth 100000 in
theorem k_X2_spotsOccupiedTwice {p : Program} {l : Launch} {e : Env} {s : State} {m : MethodId} {args : Array Value} {below : List Frame} {meth : Method} {c : Code} {dd : cl_D} {b : Nat} (C : cl_C p l s m args meth c cX2_spotsOccupiedTwice RX2 4 (some .int) dd b) : ∀ (M : cl_M) (t0 : Nat) (r : Int32), f_X2_spotsOccupiedTwice M t0 = some r → ∀ (H : Heap) (locs : List Loc) (ls : Array Slot), cl_sh dd t0 = 2 → cl_H dd b M s H locs → lv_has ls 4 [(0, .ref (b + t0))] → W p l e { frames := 1, cells := 0, slots := 0, locals := 20 } s m args below meth c H locs 0 0 (cl_Zi below args s dd b r M) (F0 m 0 ls []) := by
  have hx := C.1
  have hb := C.2.1
  have hlt := C.2.2.2.2.2.2.2.2.2.2
  have hRr := C.2.2.2.2.2.2.2.2.2.1
  intro M t0 r hf H locs ls ht0 hw hl
  unfold f_X2_spotsOccupiedTwice at hf
  refine lv_iconst (v := 0) hx hb dX2_spotsOccupiedTwice_0 (by decide) ?_
  refine lv_istore_n (lv' := [(1, .int 0), (0, .ref (b + t0))]) hx hb dX2_spotsOccupiedTwice_1 rfl hl (by decide) rfl (fun ls hl => ?_)
  refine lv_iconst (v := 0) hx hb dX2_spotsOccupiedTwice_2 (by decide) ?_
  refine lv_istore_n (lv' := [(2, .int 0), (1, .int 0), (0, .ref (b + t0))]) hx hb dX2_spotsOccupiedTwice_3 rfl hl (by decide) rfl (fun ls hl => ?_)
  refine lv_iconst (v := 0) hx hb dX2_spotsOccupiedTwice_4 (by decide) ?_
  refine lv_istore_n (lv' := [(3, .int 0), (2, .int 0), (1, .int 0), (0, .ref (b + t0))]) hx hb dX2_spotsOccupiedTwice_5 rfl hl (by decide) rfl (fun ls hl => ?_)
  exact k_X2_spotsOccupiedTwice_6 C cl_F M t0 0 0 0 _ hf _ _ _ ht0 hw (lv_sub hl [3, 2, 1, 0] rfl)
set_option maxRecDepth 100000 in
theorem c_X2_spotsOccupiedTwice {l : Launch} {dd : cl_D} {b : Nat} (hlt : l.stackTraces = false) {M : cl_M} {t0 : Nat}  {r : Int32} (ht0 : cl_sh dd t0 = 2) (h : f_X2_spotsOccupiedTwice M t0 = some r) : cl_Mi l dd b yX2_spotsOccupiedTwice cX2_spotsOccupiedTwice 4 (some .int) 1 20 [.ref (b + t0)] M r M :=
  cl_of hlt (by decide) (Nat.le_of_ble_eq_true rfl) (fun p e s m below meth c ls C hw hl => k_X2_spotsOccupiedTwice C M t0 r h _ _ _ ht0 hw (lv_sub hl [0] rfl))
theorem cy_X2_spotsOccupiedTwice : cl_cy yX2_spotsOccupiedTwice cX2_spotsOccupiedTwice 4 (some .int) 0 := ⟨in_ClothesLine_Line, cd_X2_spotsOccupiedTwice, by decide +kernel, by decide +kernel, by decide +kernel⟩
theorem vy_X2_spotsOccupiedTwice : cl_vy yX2_spotsOccupiedTwice := ⟨im_X2_spotsOccupiedTwice, se_X2_spotsOccupiedTwice⟩
def f_X2_occupant_2 : Nat → cl_M → Nat → Int32 → Int32 → Option (Int32)
  | 0, _, _, _, _ => none
  | k + 1, M, t0, a1, a2 => if (M t0 3) ≤ a2 then some (-1) else if cl_inb a2 10 = true then if (((M ((t0 + 8) + 1 + (a2).toNatClampNeg) 8) >>> (a1 &&& 31)) &&& 1) = 1 then some a2 else cl_let (a2 + 1) (fun v4 => f_X2_occupant_2 k M t0 a1 v4) else none
set_option maxHeartbeats 4000000 in
set_option maxRecDepth 100000 in
theorem k_X2_occupant_2 {p : Program} {l : Launch} {e : Env} {s : State} {m : MethodId} {args : Array Value} {below : List Frame} {meth : Method} {c : Code} {dd : cl_D} {b : Nat} (C : cl_C p l s m args meth c cX2_occupant RX2 3 (some .int) dd b) : ∀ (k : Nat), ∀ (M : cl_M) (t0 : Nat) (a1 : Int32) (a2 : Int32) (r : Int32), f_X2_occupant_2 k M t0 a1 a2 = some r → ∀ (H : Heap) (locs : List Loc) (ls : Array Slot), cl_sh dd t0 = 2 → cl_H dd b M s H locs → lv_has ls 3 [(0, .ref (b + t0)), (1, .int a1), (2, .int a2)] → W p l e { frames := 0, cells := 0, slots := 0, locals := 0 } s m args below meth c H locs 0 0 (cl_Zi below args s dd b r M) (F0 m 2 ls []) := by
  have hx := C.1
  have hb := C.2.1
  have hlt := C.2.2.2.2.2.2.2.2.2.2
  have hRr := C.2.2.2.2.2.2.2.2.2.1
  intro k
  induction k with
  | zero =>
    intro M t0 a1 a2 r hf H locs ls ht0 hw hl
    rw [f_X2_occupant_2] at hf
    cases hf
  | succ k ih =>
    intro M t0 a1 a2 r hf H locs ls ht0 hw hl
    rw [f_X2_occupant_2] at hf
    refine lv_iload_n hx hb dX2_occupant_2 rfl (lv_at hl 2 rfl) ?_
    refine lv_aload_n hx hb dX2_occupant_3 rfl (lv_at hl 0 rfl) ?_
    refine fg_X2_35 C hw ht0 dX2_occupant_4 ?_
    refine lv_icmp_ge (tgt := 35) hx hb dX2_occupant_7 (by decide) (fun c1 => ?_) (fun c1 => ?_)
    · have hf := cl_yes c1 hf
      refine lv_iconst (v := (-1)) hx hb dX2_occupant_35 (by decide) ?_
      obtain rfl := Option.some.inj hf
      exact cr_reti C hw dX2_occupant_36
    · have hf := cl_no c1 hf
      refine lv_aload_n hx hb dX2_occupant_10 rfl (lv_at hl 0 rfl) ?_
      refine fg_X2_20 C hw ht0 dX2_occupant_11 ?_
      refine lv_iload_n hx hb dX2_occupant_14 rfl (lv_at hl 2 rfl) ?_
      obtain ⟨q2, hf⟩ := cl_grd hf
      refine cr_ald9 C hw (sh_2_5 ht0).1 q2 (k := (a2).toNatClampNeg) rfl dX2_occupant_15 ?_
      refine fg_X2_59 C hw (sh_el_9 (sh_2_5 ht0).1 (cl_inb_lt q2)) dX2_occupant_16 ?_
      refine lv_iload_n hx hb dX2_occupant_19 rfl (lv_at hl 1 rfl) ?_
      refine lv_ishr hx hb dX2_occupant_20 ?_
      refine lv_iconst (v := 1) hx hb dX2_occupant_21 (by decide) ?_
      refine lv_iand hx hb dX2_occupant_22 ?_
      refine lv_iconst (v := 1) hx hb dX2_occupant_23 (by decide) ?_
      refine lv_icmp_ne (tgt := 29) hx hb dX2_occupant_24 (by decide) (fun c3 => ?_) (fun c3 => ?_)
      · have hf := cl_no c3 hf
        obtain ⟨v4, ev4, hf⟩ := cl_let_e hf
        refine lv_iinc (v := v4) (lv' := [(2, .int v4), (0, .ref (b + t0)), (1, .int a1)]) hx hb dX2_occupant_29 hl (k := 2) rfl (by rw [ev4]; rfl) (by decide) rfl (fun ls hl => ?_)
        refine lv_goto (tgt := 2) hx hb dX2_occupant_32 (by decide) ?_
        exact ih M t0 a1 v4 _ hf _ _ _ ht0 hw (lv_sub hl [1, 2, 0] rfl)
      · have hf := cl_yes c3 hf
        refine lv_iload_n hx hb dX2_occupant_27 rfl (lv_at hl 2 rfl) ?_
        obtain rfl := Option.some.inj hf
        exact cr_reti C hw dX2_occupant_28
def f_X2_occupant (M : cl_M) (t0 : Nat) (a1 : Int32) : Option (Int32) := f_X2_occupant_2 cl_F M t0 a1 0
set_option maxHeartbeats 4000000 in
set_option maxRecDepth 100000 in
theorem k_X2_occupant {p : Program} {l : Launch} {e : Env} {s : State} {m : MethodId} {args : Array Value} {below : List Frame} {meth : Method} {c : Code} {dd : cl_D} {b : Nat} (C : cl_C p l s m args meth c cX2_occupant RX2 3 (some .int) dd b) : ∀ (M : cl_M) (t0 : Nat) (a1 : Int32) (r : Int32), f_X2_occupant M t0 a1 = some r → ∀ (H : Heap) (locs : List Loc) (ls : Array Slot), cl_sh dd t0 = 2 → cl_H dd b M s H locs → lv_has ls 3 [(0, .ref (b + t0)), (1, .int a1)] → W p l e { frames := 0, cells := 0, slots := 0, locals := 0 } s m args below meth c H locs 0 0 (cl_Zi below args s dd b r M) (F0 m 0 ls []) := by
  have hx := C.1
  have hb := C.2.1
  have hlt := C.2.2.2.2.2.2.2.2.2.2
  have hRr := C.2.2.2.2.2.2.2.2.2.1
  intro M t0 a1 r hf H locs ls ht0 hw hl
  unfold f_X2_occupant at hf
  refine lv_iconst (v := 0) hx hb dX2_occupant_0 (by decide) ?_
  refine lv_istore_n (lv' := [(2, .int 0), (0, .ref (b + t0)), (1, .int a1)]) hx hb dX2_occupant_1 rfl hl (by decide) rfl (fun ls hl => ?_)
  exact k_X2_occupant_2 C cl_F M t0 a1 0 _ hf _ _ _ ht0 hw (lv_sub hl [1, 2, 0] rfl)
set_option maxRecDepth 100000 in
theorem c_X2_occupant {l : Launch} {dd : cl_D} {b : Nat} (hlt : l.stackTraces = false) {M : cl_M} {t0 : Nat} {a1 : Int32}  {r : Int32} (ht0 : cl_sh dd t0 = 2) (h : f_X2_occupant M t0 a1 = some r) : cl_Mi l dd b yX2_occupant cX2_occupant 3 (some .int) 0 0 [.ref (b + t0), .int a1] M r M :=
  cl_of hlt (by decide) (Nat.le_of_ble_eq_true rfl) (fun p e s m below meth c ls C hw hl => k_X2_occupant C M t0 a1 r h _ _ _ ht0 hw (lv_sub hl [0, 1] rfl))
theorem cy_X2_occupant : cl_cy yX2_occupant cX2_occupant 3 (some .int) 1 := ⟨in_ClothesLine_Line, cd_X2_occupant, by decide +kernel, by decide +kernel, by decide +kernel⟩
theorem vy_X2_occupant : cl_vy yX2_occupant := ⟨im_X2_occupant, se_X2_occupant⟩
def f_X2_setInState_31 (r4 : cl_M → Nat → Int32 → Int32 → Int32 → Option (Int32)) (M : cl_M) (t0 : Nat) (a1 : Int32) (a2 : Int32) (a3 : Int32) : Option (Int32) := cl_let (a3 + 1) (fun v4 => r4 M t0 a1 a2 v4)
set_option maxHeartbeats 4000000 in
set_option maxRecDepth 100000 in
theorem k_X2_setInState_31 {p : Program} {l : Launch} {e : Env} {s : State} {m : MethodId} {args : Array Value} {below : List Frame} {meth : Method} {c : Code} {dd : cl_D} {b : Nat} (C : cl_C p l s m args meth c cX2_setInState RX2 4 (some .int) dd b) {r4 : cl_M → Nat → Int32 → Int32 → Int32 → Option (Int32)} (hr4 : ∀ (M : cl_M) (t0 : Nat) (a1 : Int32) (a2 : Int32) (a3 : Int32) (r : Int32), r4 M t0 a1 a2 a3 = some r → ∀ (H : Heap) (locs : List Loc) (ls : Array Slot), cl_sh dd t0 = 2 → cl_H dd b M s H locs → lv_has ls 4 [(0, .ref (b + t0)), (1, .int a1), (2, .int a2), (3, .int a3)] → W p l e { frames := 0, cells := 0, slots := 0, locals := 0 } s m args below meth c H locs 0 0 (cl_Zi below args s dd b r M) (F0 m 4 ls [])) : ∀ (M : cl_M) (t0 : Nat) (a1 : Int32) (a2 : Int32) (a3 : Int32) (r : Int32), f_X2_setInState_31 r4 M t0 a1 a2 a3 = some r → ∀ (H : Heap) (locs : List Loc) (ls : Array Slot), cl_sh dd t0 = 2 → cl_H dd b M s H locs → lv_has ls 4 [(0, .ref (b + t0)), (1, .int a1), (2, .int a2), (3, .int a3)] → W p l e { frames := 0, cells := 0, slots := 0, locals := 0 } s m args below meth c H locs 0 0 (cl_Zi below args s dd b r M) (F0 m 31 ls []) := by
  have hx := C.1
  have hb := C.2.1
  have hlt := C.2.2.2.2.2.2.2.2.2.2
  have hRr := C.2.2.2.2.2.2.2.2.2.1
  intro M t0 a1 a2 a3 r hf H locs ls ht0 hw hl
  unfold f_X2_setInState_31 at hf
  obtain ⟨v4, ev4, hf⟩ := cl_let_e hf
  refine lv_iinc (v := v4) (lv' := [(3, .int v4), (0, .ref (b + t0)), (1, .int a1), (2, .int a2)]) hx hb dX2_setInState_31 hl (k := 3) rfl (by rw [ev4]; rfl) (by decide) rfl (fun ls hl => ?_)
  refine lv_goto (tgt := 4) hx hb dX2_setInState_34 (by decide) ?_
  exact hr4 M t0 a1 a2 v4 _ hf _ _ _ ht0 hw (lv_sub hl [1, 2, 3, 0] rfl)
def f_X2_setInState_4 : Nat → cl_M → Nat → Int32 → Int32 → Int32 → Option (Int32)
  | 0, _, _, _, _, _ => none
  | k + 1, M, t0, a1, a2, a3 => if (M t0 3) ≤ a3 then some a2 else if cl_inb a3 10 = true then if (M ((t0 + 8) + 1 + (a3).toNatClampNeg) 6) = a1 then cl_let (a2 ||| (1 <<< (a3 &&& 31))) (fun v5 => f_X2_setInState_31 (f_X2_setInState_4 k) M t0 a1 v5 a3) else f_X2_setInState_31 (f_X2_setInState_4 k) M t0 a1 a2 a3 else none
set_option maxHeartbeats 4000000 in
set_option maxRecDepth 100000 in
theorem k_X2_setInState_4 {p : Program} {l : Launch} {e : Env} {s : State} {m : MethodId} {args : Array Value} {below : List Frame} {meth : Method} {c : Code} {dd : cl_D} {b : Nat} (C : cl_C p l s m args meth c cX2_setInState RX2 4 (some .int) dd b) : ∀ (k : Nat), ∀ (M : cl_M) (t0 : Nat) (a1 : Int32) (a2 : Int32) (a3 : Int32) (r : Int32), f_X2_setInState_4 k M t0 a1 a2 a3 = some r → ∀ (H : Heap) (locs : List Loc) (ls : Array Slot), cl_sh dd t0 = 2 → cl_H dd b M s H locs → lv_has ls 4 [(0, .ref (b + t0)), (1, .int a1), (2, .int a2), (3, .int a3)] → W p l e { frames := 0, cells := 0, slots := 0, locals := 0 } s m args below meth c H locs 0 0 (cl_Zi below args s dd b r M) (F0 m 4 ls []) := by
  have hx := C.1
  have hb := C.2.1
  have hlt := C.2.2.2.2.2.2.2.2.2.2
  have hRr := C.2.2.2.2.2.2.2.2.2.1
  intro k
  induction k with
  | zero =>
    intro M t0 a1 a2 a3 r hf H locs ls ht0 hw hl
    rw [f_X2_setInState_4] at hf
    cases hf
  | succ k ih =>
    intro M t0 a1 a2 a3 r hf H locs ls ht0 hw hl
    rw [f_X2_setInState_4] at hf
    refine lv_iload_n hx hb dX2_setInState_4 rfl (lv_at hl 3 rfl) ?_
    refine lv_aload_n hx hb dX2_setInState_5 rfl (lv_at hl 0 rfl) ?_
    refine fg_X2_35 C hw ht0 dX2_setInState_6 ?_
    refine lv_icmp_ge (tgt := 37) hx hb dX2_setInState_9 (by decide) (fun c1 => ?_) (fun c1 => ?_)
    · have hf := cl_yes c1 hf
      refine lv_iload_n hx hb dX2_setInState_37 rfl (lv_at hl 2 rfl) ?_
      obtain rfl := Option.some.inj hf
      exact cr_reti C hw dX2_setInState_38
    · have hf := cl_no c1 hf
      refine lv_aload_n hx hb dX2_setInState_12 rfl (lv_at hl 0 rfl) ?_
      refine fg_X2_20 C hw ht0 dX2_setInState_13 ?_
      refine lv_iload_n hx hb dX2_setInState_16 rfl (lv_at hl 3 rfl) ?_
      obtain ⟨q2, hf⟩ := cl_grd hf
      refine cr_ald9 C hw (sh_2_5 ht0).1 q2 (k := (a3).toNatClampNeg) rfl dX2_setInState_17 ?_
      refine fg_X2_68 C hw (sh_el_9 (sh_2_5 ht0).1 (cl_inb_lt q2)) dX2_setInState_18 ?_
      refine lv_iload_n hx hb dX2_setInState_21 rfl (lv_at hl 1 rfl) ?_
      refine lv_icmp_ne (tgt := 31) hx hb dX2_setInState_22 (by decide) (fun c3 => ?_) (fun c3 => ?_)
      · have hf := cl_no c3 hf
        exact k_X2_setInState_31 C ih M t0 a1 a2 a3 _ hf _ _ _ ht0 hw (lv_sub hl [0, 1, 2, 3] rfl)
      · have hf := cl_yes c3 hf
        refine lv_iload_n hx hb dX2_setInState_25 rfl (lv_at hl 2 rfl) ?_
        refine lv_iconst (v := 1) hx hb dX2_setInState_26 (by decide) ?_
        refine lv_iload_n hx hb dX2_setInState_27 rfl (lv_at hl 3 rfl) ?_
        refine lv_ishl hx hb dX2_setInState_28 ?_
        refine lv_ior hx hb dX2_setInState_29 ?_
        obtain ⟨v5, ev5, hf⟩ := cl_let_e hf
        refine cr_top ev5 ?_
        refine lv_istore_n (lv' := [(2, .int v5), (0, .ref (b + t0)), (1, .int a1), (3, .int a3)]) hx hb dX2_setInState_30 rfl hl (by decide) rfl (fun ls hl => ?_)
        exact k_X2_setInState_31 C ih M t0 a1 v5 a3 _ hf _ _ _ ht0 hw (lv_sub hl [1, 2, 0, 3] rfl)
def f_X2_setInState (M : cl_M) (t0 : Nat) (a1 : Int32) : Option (Int32) := f_X2_setInState_4 cl_F M t0 a1 0 0
set_option maxHeartbeats 4000000 in
set_option maxRecDepth 100000 in
theorem k_X2_setInState {p : Program} {l : Launch} {e : Env} {s : State} {m : MethodId} {args : Array Value} {below : List Frame} {meth : Method} {c : Code} {dd : cl_D} {b : Nat} (C : cl_C p l s m args meth c cX2_setInState RX2 4 (some .int) dd b) : ∀ (M : cl_M) (t0 : Nat) (a1 : Int32) (r : Int32), f_X2_setInState M t0 a1 = some r → ∀ (H : Heap) (locs : List Loc) (ls : Array Slot), cl_sh dd t0 = 2 → cl_H dd b M s H locs → lv_has ls 4 [(0, .ref (b + t0)), (1, .int a1)] → W p l e { frames := 0, cells := 0, slots := 0, locals := 0 } s m args below meth c H locs 0 0 (cl_Zi below args s dd b r M) (F0 m 0 ls []) := by
  have hx := C.1
  have hb := C.2.1
  have hlt := C.2.2.2.2.2.2.2.2.2.2
  have hRr := C.2.2.2.2.2.2.2.2.2.1
  intro M t0 a1 r hf H locs ls ht0 hw hl
  unfold f_X2_setInState at hf
  refine lv_iconst (v := 0) hx hb dX2_setInState_0 (by decide) ?_
  refine lv_istore_n (lv' := [(2, .int 0), (0, .ref (b + t0)), (1, .int a1)]) hx hb dX2_setInState_1 rfl hl (by decide) rfl (fun ls hl => ?_)
  refine lv_iconst (v := 0) hx hb dX2_setInState_2 (by decide) ?_
  refine lv_istore_n (lv' := [(3, .int 0), (2, .int 0), (0, .ref (b + t0)), (1, .int a1)]) hx hb dX2_setInState_3 rfl hl (by decide) rfl (fun ls hl => ?_)
  exact k_X2_setInState_4 C cl_F M t0 a1 0 0 _ hf _ _ _ ht0 hw (lv_sub hl [2, 3, 1, 0] rfl)
set_option maxRecDepth 100000 in
theorem c_X2_setInState {l : Launch} {dd : cl_D} {b : Nat} (hlt : l.stackTraces = false) {M : cl_M} {t0 : Nat} {a1 : Int32}  {r : Int32} (ht0 : cl_sh dd t0 = 2) (h : f_X2_setInState M t0 a1 = some r) : cl_Mi l dd b yX2_setInState cX2_setInState 4 (some .int) 0 0 [.ref (b + t0), .int a1] M r M :=
  cl_of hlt (by decide) (Nat.le_of_ble_eq_true rfl) (fun p e s m below meth c ls C hw hl => k_X2_setInState C M t0 a1 r h _ _ _ ht0 hw (lv_sub hl [0, 1] rfl))
theorem cy_X2_setInState : cl_cy yX2_setInState cX2_setInState 4 (some .int) 1 := ⟨in_ClothesLine_Line, cd_X2_setInState, by decide +kernel, by decide +kernel, by decide +kernel⟩
theorem vy_X2_setInState : cl_vy yX2_setInState := ⟨im_X2_setInState, se_X2_setInState⟩
def f_X2_obstacle_95 (M : cl_M) (z0 : Int32) : Option (Int32) := some z0
set_option maxHeartbeats 4000000 in
set_option maxRecDepth 100000 in
theorem k_X2_obstacle_95 {p : Program} {l : Launch} {e : Env} {s : State} {m : MethodId} {args : Array Value} {below : List Frame} {meth : Method} {c : Code} {dd : cl_D} {b : Nat} (C : cl_C p l s m args meth c cX2_obstacle RX2 5 (some .int) dd b) : ∀ (M : cl_M) (z0 : Int32) (r : Int32), f_X2_obstacle_95 M z0 = some r → ∀ (H : Heap) (locs : List Loc) (ls : Array Slot), cl_H dd b M s H locs → lv_has ls 5 [] → W p l e { frames := 1, cells := 0, slots := 0, locals := 22 } s m args below meth c H locs 0 0 (cl_Zi below args s dd b r M) (F0 m 95 ls [.int z0]) := by
  have hx := C.1
  have hb := C.2.1
  have hlt := C.2.2.2.2.2.2.2.2.2.2
  have hRr := C.2.2.2.2.2.2.2.2.2.1
  intro M z0 r hf H locs ls hw hl
  unfold f_X2_obstacle_95 at hf
  obtain rfl := Option.some.inj hf
  exact cr_reti C hw dX2_obstacle_95
def f_X2_obstacle (M : cl_M) (t0 : Nat) (t1 : Nat) (a2 : Int32) (a3 : Int32) (a4 : Int32) : Option (Int32) := if (M t1 6) = 0 then if (a2 + (M t1 0)) ≤ 24 then (f_X5_spotSet M a2 (M t1 0)).bind (fun v3 => (f_X2_occupied M t0).bind (fun v5 => if (v3 &&& v5) = 0 then if (a3 + a4) = 0 then some 4 else if (a3 + a4) ≤ 4 then (f_X2_woodenInBag M t0).bind (fun v10 => if v10 < a3 then some 5 else (f_X2_steelInBag M t0).bind (fun v13 => if a4 ≤ v13 then (f_X0_weight M t1).bind (fun v16 => (f_X5_holdOfPegs M a3 a4).bind (fun v18 => if v16 ≤ v18 then f_X2_obstacle_95 M 0 else f_X2_obstacle_95 M 6)) else some 5)) else some 4 else some 3)) else some 2 else some 1
set_option maxHeartbeats 4000000 in
set_option maxRecDepth 100000 in
theorem k_X2_obstacle {p : Program} {l : Launch} {e : Env} {s : State} {m : MethodId} {args : Array Value} {below : List Frame} {meth : Method} {c : Code} {dd : cl_D} {b : Nat} (C : cl_C p l s m args meth c cX2_obstacle RX2 5 (some .int) dd b) : ∀ (M : cl_M) (t0 : Nat) (t1 : Nat) (a2 : Int32) (a3 : Int32) (a4 : Int32) (r : Int32), f_X2_obstacle M t0 t1 a2 a3 a4 = some r → ∀ (H : Heap) (locs : List Loc) (ls : Array Slot), cl_sh dd t0 = 2 → cl_sh dd t1 = 0 → cl_H dd b M s H locs → lv_has ls 5 [(0, .ref (b + t0)), (1, .ref (b + t1)), (2, .int a2), (3, .int a3), (4, .int a4)] → W p l e { frames := 1, cells := 0, slots := 0, locals := 22 } s m args below meth c H locs 0 0 (cl_Zi below args s dd b r M) (F0 m 0 ls []) := by
  have hx := C.1
  have hb := C.2.1
  have hlt := C.2.2.2.2.2.2.2.2.2.2
  have hRr := C.2.2.2.2.2.2.2.2.2.1
  intro M t0 t1 a2 a3 a4 r hf H locs ls ht0 ht1 hw hl
  unfold f_X2_obstacle at hf
  refine lv_aload_n hx hb dX2_obstacle_0 rfl (lv_at hl 1 rfl) ?_
  refine fg_X2_68 C hw ht1 dX2_obstacle_1 ?_
  refine lv_if_eq (tgt := 9) hx hb dX2_obstacle_4 (by decide) (fun c1 => ?_) (fun c1 => ?_)
  · have hf := cl_yes c1 hf
    refine lv_iload_n hx hb dX2_obstacle_9 rfl (lv_at hl 2 rfl) ?_
    refine lv_aload_n hx hb dX2_obstacle_10 rfl (lv_at hl 1 rfl) ?_
    refine fg_X2_71 C hw ht1 dX2_obstacle_11 ?_
    refine lv_iadd hx hb dX2_obstacle_14 ?_
    refine lv_bipush (v := 24) hx hb dX2_obstacle_15 (by decide) ?_
    refine lv_icmp_le (tgt := 22) hx hb dX2_obstacle_17 (by decide) (fun c2 => ?_) (fun c2 => ?_)
    · have hf := cl_yes c2 hf
      refine lv_iload_n hx hb dX2_obstacle_22 rfl (lv_at hl 2 rfl) ?_
      refine lv_aload_n hx hb dX2_obstacle_23 rfl (lv_at hl 1 rfl) ?_
      refine fg_X2_71 C hw ht1 dX2_obstacle_24 ?_
      obtain ⟨v3, e4, hf⟩ := cl_bind_e hf
      refine cr_Ni C hw (c_X5_spotSet hlt e4) cy_X5_spotSet st_X5_spotSet ml_X2_74 (As := [.int a2, .int (M t1 0)]) rfl hl.1 rfl ⟨⟨Nat.le_of_ble_eq_true rfl, Nat.le_of_ble_eq_true rfl⟩, Nat.le_of_ble_eq_true rfl, Nat.le_of_ble_eq_true rfl, Nat.le_of_ble_eq_true rfl⟩ dX2_obstacle_27 (fun H locs hw => ?_)
      refine lv_aload_n hx hb dX2_obstacle_30 rfl (lv_at hl 0 rfl) ?_
      obtain ⟨v5, e6, hf⟩ := cl_bind_e hf
      refine cr_Vi C hw (c_X2_occupied hlt ht0 e6) cy_X2_occupied vy_X2_occupied ml_X2_78 (cl_lt ht0 (by decide)) (cl_e2 ht0) rfl rfl (As := []) rfl hl.1 rfl ⟨⟨Nat.le_of_ble_eq_true rfl, Nat.le_of_ble_eq_true rfl⟩, Nat.le_of_ble_eq_true rfl, Nat.le_of_ble_eq_true rfl, Nat.le_of_ble_eq_true rfl⟩ dX2_obstacle_31 (fun H locs hw => ?_)
      refine lv_iand hx hb dX2_obstacle_34 ?_
      refine lv_if_eq (tgt := 40) hx hb dX2_obstacle_35 (by decide) (fun c7 => ?_) (fun c7 => ?_)
      · have hf := cl_yes c7 hf
        refine lv_iload_n hx hb dX2_obstacle_40 rfl (lv_at hl 3 rfl) ?_
        refine lv_iload hx hb dX2_obstacle_41 (lv_at hl 4 rfl) ?_
        refine lv_iadd hx hb dX2_obstacle_43 ?_
        refine lv_if_eq (tgt := 55) hx hb dX2_obstacle_44 (by decide) (fun c8 => ?_) (fun c8 => ?_)
        · have hf := cl_yes c8 hf
          refine lv_iconst (v := 4) hx hb dX2_obstacle_55 (by decide) ?_
          obtain rfl := Option.some.inj hf
          exact cr_reti C hw dX2_obstacle_56
        · have hf := cl_no c8 hf
          refine lv_iload_n hx hb dX2_obstacle_47 rfl (lv_at hl 3 rfl) ?_
          refine lv_iload hx hb dX2_obstacle_48 (lv_at hl 4 rfl) ?_
          refine lv_iadd hx hb dX2_obstacle_50 ?_
          refine lv_iconst (v := 4) hx hb dX2_obstacle_51 (by decide) ?_
          refine lv_icmp_le (tgt := 57) hx hb dX2_obstacle_52 (by decide) (fun c9 => ?_) (fun c9 => ?_)
          · have hf := cl_yes c9 hf
            refine lv_iload_n hx hb dX2_obstacle_57 rfl (lv_at hl 3 rfl) ?_
            refine lv_aload_n hx hb dX2_obstacle_58 rfl (lv_at hl 0 rfl) ?_
            obtain ⟨v10, e11, hf⟩ := cl_bind_e hf
            refine cr_Vi C hw (c_X2_woodenInBag hlt ht0 e11) cy_X2_woodenInBag vy_X2_woodenInBag ml_X2_82 (cl_lt ht0 (by decide)) (cl_e2 ht0) rfl rfl (As := []) rfl hl.1 rfl ⟨⟨Nat.le_of_ble_eq_true rfl, Nat.le_of_ble_eq_true rfl⟩, Nat.le_of_ble_eq_true rfl, Nat.le_of_ble_eq_true rfl, Nat.le_of_ble_eq_true rfl⟩ dX2_obstacle_59 (fun H locs hw => ?_)
            refine lv_icmp_gt (tgt := 74) hx hb dX2_obstacle_62 (by decide) (fun c12 => ?_) (fun c12 => ?_)
            · have hf := cl_yes c12 hf
              refine lv_iconst (v := 5) hx hb dX2_obstacle_74 (by decide) ?_
              obtain rfl := Option.some.inj hf
              exact cr_reti C hw dX2_obstacle_75
            · have hf := cl_no c12 hf
              refine lv_iload hx hb dX2_obstacle_65 (lv_at hl 4 rfl) ?_
              refine lv_aload_n hx hb dX2_obstacle_67 rfl (lv_at hl 0 rfl) ?_
              obtain ⟨v13, e14, hf⟩ := cl_bind_e hf
              refine cr_Vi C hw (c_X2_steelInBag hlt ht0 e14) cy_X2_steelInBag vy_X2_steelInBag ml_X2_85 (cl_lt ht0 (by decide)) (cl_e2 ht0) rfl rfl (As := []) rfl hl.1 rfl ⟨⟨Nat.le_of_ble_eq_true rfl, Nat.le_of_ble_eq_true rfl⟩, Nat.le_of_ble_eq_true rfl, Nat.le_of_ble_eq_true rfl, Nat.le_of_ble_eq_true rfl⟩ dX2_obstacle_68 (fun H locs hw => ?_)
              refine lv_icmp_le (tgt := 76) hx hb dX2_obstacle_71 (by decide) (fun c15 => ?_) (fun c15 => ?_)
              · have hf := cl_yes c15 hf
                refine lv_aload_n hx hb dX2_obstacle_76 rfl (lv_at hl 1 rfl) ?_
                obtain ⟨v16, e17, hf⟩ := cl_bind_e hf
                refine cr_Vi C hw (c_X0_weight hlt ht1 e17) cy_X0_weight vy_X0_weight ml_X2_88 (cl_lt ht1 (by decide)) (cl_e0 ht1) rfl rfl (As := []) rfl hl.1 rfl ⟨⟨Nat.le_of_ble_eq_true rfl, Nat.le_of_ble_eq_true rfl⟩, Nat.le_of_ble_eq_true rfl, Nat.le_of_ble_eq_true rfl, Nat.le_of_ble_eq_true rfl⟩ dX2_obstacle_77 (fun H locs hw => ?_)
                refine lv_iload_n hx hb dX2_obstacle_80 rfl (lv_at hl 3 rfl) ?_
                refine lv_iload hx hb dX2_obstacle_81 (lv_at hl 4 rfl) ?_
                obtain ⟨v18, e19, hf⟩ := cl_bind_e hf
                refine cr_Ni C hw (c_X5_holdOfPegs hlt e19) cy_X5_holdOfPegs st_X5_holdOfPegs ml_X2_91 (As := [.int a3, .int a4]) rfl hl.1 rfl ⟨⟨Nat.le_of_ble_eq_true rfl, Nat.le_of_ble_eq_true rfl⟩, Nat.le_of_ble_eq_true rfl, Nat.le_of_ble_eq_true rfl, Nat.le_of_ble_eq_true rfl⟩ dX2_obstacle_83 (fun H locs hw => ?_)
                refine lv_icmp_le (tgt := 94) hx hb dX2_obstacle_86 (by decide) (fun c20 => ?_) (fun c20 => ?_)
                · have hf := cl_yes c20 hf
                  refine lv_iconst (v := 0) hx hb dX2_obstacle_94 (by decide) ?_
                  exact k_X2_obstacle_95 C M 0 _ hf _ _ _ hw (lv_sub hl [] rfl)
                · have hf := cl_no c20 hf
                  refine lv_bipush (v := 6) hx hb dX2_obstacle_89 (by decide) ?_
                  refine lv_goto (tgt := 95) hx hb dX2_obstacle_91 (by decide) ?_
                  exact k_X2_obstacle_95 C M 6 _ hf _ _ _ hw (lv_sub hl [] rfl)
              · have hf := cl_no c15 hf
                refine lv_iconst (v := 5) hx hb dX2_obstacle_74 (by decide) ?_
                obtain rfl := Option.some.inj hf
                exact cr_reti C hw dX2_obstacle_75
          · have hf := cl_no c9 hf
            refine lv_iconst (v := 4) hx hb dX2_obstacle_55 (by decide) ?_
            obtain rfl := Option.some.inj hf
            exact cr_reti C hw dX2_obstacle_56
      · have hf := cl_no c7 hf
        refine lv_iconst (v := 3) hx hb dX2_obstacle_38 (by decide) ?_
        obtain rfl := Option.some.inj hf
        exact cr_reti C hw dX2_obstacle_39
    · have hf := cl_no c2 hf
      refine lv_iconst (v := 2) hx hb dX2_obstacle_20 (by decide) ?_
      obtain rfl := Option.some.inj hf
      exact cr_reti C hw dX2_obstacle_21
  · have hf := cl_no c1 hf
    refine lv_iconst (v := 1) hx hb dX2_obstacle_7 (by decide) ?_
    obtain rfl := Option.some.inj hf
    exact cr_reti C hw dX2_obstacle_8
set_option maxRecDepth 100000 in
theorem c_X2_obstacle {l : Launch} {dd : cl_D} {b : Nat} (hlt : l.stackTraces = false) {M : cl_M} {t0 : Nat} {t1 : Nat} {a2 : Int32} {a3 : Int32} {a4 : Int32}  {r : Int32} (ht0 : cl_sh dd t0 = 2) (ht1 : cl_sh dd t1 = 0) (h : f_X2_obstacle M t0 t1 a2 a3 a4 = some r) : cl_Mi l dd b yX2_obstacle cX2_obstacle 5 (some .int) 1 22 [.ref (b + t0), .ref (b + t1), .int a2, .int a3, .int a4] M r M :=
  cl_of hlt (by decide) (Nat.le_of_ble_eq_true rfl) (fun p e s m below meth c ls C hw hl => k_X2_obstacle C M t0 t1 a2 a3 a4 r h _ _ _ ht0 ht1 hw (lv_sub hl [0, 1, 2, 3, 4] rfl))
theorem cy_X2_obstacle : cl_cy yX2_obstacle cX2_obstacle 5 (some .int) 4 := ⟨in_ClothesLine_Line, cd_X2_obstacle, by decide +kernel, by decide +kernel, by decide +kernel⟩
theorem vy_X2_obstacle : cl_vy yX2_obstacle := ⟨im_X2_obstacle, se_X2_obstacle⟩
def f_X2_canShift_51 (M : cl_M) (z0 : Int32) : Option (Int32) := if cl_bz z0 = true then some z0 else none
set_option maxHeartbeats 4000000 in
set_option maxRecDepth 100000 in
theorem k_X2_canShift_51 {p : Program} {l : Launch} {e : Env} {s : State} {m : MethodId} {args : Array Value} {below : List Frame} {meth : Method} {c : Code} {dd : cl_D} {b : Nat} (C : cl_C p l s m args meth c cX2_canShift RX2 4 (some .boolean) dd b) : ∀ (M : cl_M) (z0 : Int32) (r : Int32), f_X2_canShift_51 M z0 = some r → ∀ (H : Heap) (locs : List Loc) (ls : Array Slot), cl_H dd b M s H locs → lv_has ls 4 [] → W p l e { frames := 1, cells := 0, slots := 0, locals := 22 } s m args below meth c H locs 0 0 (cl_Zi below args s dd b r M) (F0 m 51 ls [.int z0]) := by
  have hx := C.1
  have hb := C.2.1
  have hlt := C.2.2.2.2.2.2.2.2.2.2
  have hRr := C.2.2.2.2.2.2.2.2.2.1
  intro M z0 r hf H locs ls hw hl
  unfold f_X2_canShift_51 at hf
  obtain ⟨q9, hf⟩ := cl_grd hf
  obtain rfl := Option.some.inj hf
  exact cr_retz C hw q9 dX2_canShift_51
def f_X2_canShift (M : cl_M) (t0 : Nat) (t1 : Nat) (a2 : Int32) : Option (Int32) := if (M t1 6) = 1 then if (a2 + (M t1 0)) ≤ 24 then (f_X2_occupied M t0).bind (fun v3 => cl_let (v3 &&& ((M t1 8) ^^^ (-1))) (fun v5 => (f_X5_spotSet M a2 (M t1 0)).bind (fun v6 => if (v6 &&& v5) = 0 then f_X2_canShift_51 M 1 else f_X2_canShift_51 M 0))) else some 0 else some 0
set_option maxHeartbeats 4000000 in
set_option maxRecDepth 100000 in
theorem k_X2_canShift {p : Program} {l : Launch} {e : Env} {s : State} {m : MethodId} {args : Array Value} {below : List Frame} {meth : Method} {c : Code} {dd : cl_D} {b : Nat} (C : cl_C p l s m args meth c cX2_canShift RX2 4 (some .boolean) dd b) : ∀ (M : cl_M) (t0 : Nat) (t1 : Nat) (a2 : Int32) (r : Int32), f_X2_canShift M t0 t1 a2 = some r → ∀ (H : Heap) (locs : List Loc) (ls : Array Slot), cl_sh dd t0 = 2 → cl_sh dd t1 = 0 → cl_H dd b M s H locs → lv_has ls 4 [(0, .ref (b + t0)), (1, .ref (b + t1)), (2, .int a2)] → W p l e { frames := 1, cells := 0, slots := 0, locals := 22 } s m args below meth c H locs 0 0 (cl_Zi below args s dd b r M) (F0 m 0 ls []) := by
  have hx := C.1
  have hb := C.2.1
  have hlt := C.2.2.2.2.2.2.2.2.2.2
  have hRr := C.2.2.2.2.2.2.2.2.2.1
  intro M t0 t1 a2 r hf H locs ls ht0 ht1 hw hl
  unfold f_X2_canShift at hf
  refine lv_aload_n hx hb dX2_canShift_0 rfl (lv_at hl 1 rfl) ?_
  refine fg_X2_68 C hw ht1 dX2_canShift_1 ?_
  refine lv_iconst (v := 1) hx hb dX2_canShift_4 (by decide) ?_
  refine lv_icmp_ne (tgt := 19) hx hb dX2_canShift_5 (by decide) (fun c1 => ?_) (fun c1 => ?_)
  · have hf := cl_no c1 hf
    refine lv_iconst (v := 0) hx hb dX2_canShift_19 (by decide) ?_
    obtain rfl := Option.some.inj hf
    exact cr_retz C hw (by decide) dX2_canShift_20
  · have hf := cl_yes c1 hf
    refine lv_iload_n hx hb dX2_canShift_8 rfl (lv_at hl 2 rfl) ?_
    refine lv_aload_n hx hb dX2_canShift_9 rfl (lv_at hl 1 rfl) ?_
    refine fg_X2_71 C hw ht1 dX2_canShift_10 ?_
    refine lv_iadd hx hb dX2_canShift_13 ?_
    refine lv_bipush (v := 24) hx hb dX2_canShift_14 (by decide) ?_
    refine lv_icmp_le (tgt := 21) hx hb dX2_canShift_16 (by decide) (fun c2 => ?_) (fun c2 => ?_)
    · have hf := cl_yes c2 hf
      refine lv_aload_n hx hb dX2_canShift_21 rfl (lv_at hl 0 rfl) ?_
      obtain ⟨v3, e4, hf⟩ := cl_bind_e hf
      refine cr_Vi C hw (c_X2_occupied hlt ht0 e4) cy_X2_occupied vy_X2_occupied ml_X2_78 (cl_lt ht0 (by decide)) (cl_e2 ht0) rfl rfl (As := []) rfl hl.1 rfl ⟨⟨Nat.le_of_ble_eq_true rfl, Nat.le_of_ble_eq_true rfl⟩, Nat.le_of_ble_eq_true rfl, Nat.le_of_ble_eq_true rfl, Nat.le_of_ble_eq_true rfl⟩ dX2_canShift_22 (fun H locs hw => ?_)
      refine lv_aload_n hx hb dX2_canShift_25 rfl (lv_at hl 1 rfl) ?_
      refine fg_X2_59 C hw ht1 dX2_canShift_26 ?_
      refine lv_iconst (v := (-1)) hx hb dX2_canShift_29 (by decide) ?_
      refine lv_ixor hx hb dX2_canShift_30 ?_
      refine lv_iand hx hb dX2_canShift_31 ?_
      obtain ⟨v5, ev5, hf⟩ := cl_let_e hf
      refine cr_top ev5 ?_
      refine lv_istore_n (lv' := [(3, .int v5), (0, .ref (b + t0)), (1, .ref (b + t1)), (2, .int a2)]) hx hb dX2_canShift_32 rfl hl (by decide) rfl (fun ls hl => ?_)
      refine lv_iload_n hx hb dX2_canShift_33 rfl (lv_at hl 3 rfl) ?_
      refine lv_aload_n hx hb dX2_canShift_34 rfl (lv_at hl 2 rfl) ?_
      refine fg_X2_71 C hw ht1 dX2_canShift_35 ?_
      obtain ⟨v6, e7, hf⟩ := cl_bind_e hf
      refine cr_Ni C hw (c_X5_spotSet hlt e7) cy_X5_spotSet st_X5_spotSet ml_X2_74 (As := [.int a2, .int (M t1 0)]) rfl hl.1 rfl ⟨⟨Nat.le_of_ble_eq_true rfl, Nat.le_of_ble_eq_true rfl⟩, Nat.le_of_ble_eq_true rfl, Nat.le_of_ble_eq_true rfl, Nat.le_of_ble_eq_true rfl⟩ dX2_canShift_38 (fun H locs hw => ?_)
      refine lv_iload_n hx hb dX2_canShift_41 rfl (lv_at hl 0 rfl) ?_
      refine lv_iand hx hb dX2_canShift_42 ?_
      refine lv_if_ne (tgt := 50) hx hb dX2_canShift_43 (by decide) (fun c8 => ?_) (fun c8 => ?_)
      · have hf := cl_no c8 hf
        refine lv_iconst (v := 0) hx hb dX2_canShift_50 (by decide) ?_
        exact k_X2_canShift_51 C M 0 _ hf _ _ _ hw (lv_sub hl [] rfl)
      · have hf := cl_yes c8 hf
        refine lv_iconst (v := 1) hx hb dX2_canShift_46 (by decide) ?_
        refine lv_goto (tgt := 51) hx hb dX2_canShift_47 (by decide) ?_
        exact k_X2_canShift_51 C M 1 _ hf _ _ _ hw (lv_sub hl [] rfl)
    · have hf := cl_no c2 hf
      refine lv_iconst (v := 0) hx hb dX2_canShift_19 (by decide) ?_
      obtain rfl := Option.some.inj hf
      exact cr_retz C hw (by decide) dX2_canShift_20
set_option maxRecDepth 100000 in
theorem c_X2_canShift {l : Launch} {dd : cl_D} {b : Nat} (hlt : l.stackTraces = false) {M : cl_M} {t0 : Nat} {t1 : Nat} {a2 : Int32}  {r : Int32} (ht0 : cl_sh dd t0 = 2) (ht1 : cl_sh dd t1 = 0) (h : f_X2_canShift M t0 t1 a2 = some r) : cl_Mi l dd b yX2_canShift cX2_canShift 4 (some .boolean) 1 22 [.ref (b + t0), .ref (b + t1), .int a2] M r M :=
  cl_of hlt (by decide) (Nat.le_of_ble_eq_true rfl) (fun p e s m below meth c ls C hw hl => k_X2_canShift C M t0 t1 a2 r h _ _ _ ht0 ht1 hw (lv_sub hl [0, 1, 2] rfl))
theorem cy_X2_canShift : cl_cy yX2_canShift cX2_canShift 4 (some .boolean) 2 := ⟨in_ClothesLine_Line, cd_X2_canShift, by decide +kernel, by decide +kernel, by decide +kernel⟩
theorem vy_X2_canShift : cl_vy yX2_canShift := ⟨im_X2_canShift, se_X2_canShift⟩
def f_X2_passOne_131 (r55 : cl_M → Nat → Int32 → Int32 → Int32 → Int32 → Int32 → Int32 → Option (Int32 × cl_M)) (M : cl_M) (t0 : Nat) (a1 : Int32) (a2 : Int32) (a3 : Int32) (a4 : Int32) (a5 : Int32) (a6 : Int32) : Option (Int32 × cl_M) := cl_let (a6 + 1) (fun v14 => r55 M t0 a1 a2 a3 a4 a5 v14)
set_option maxHeartbeats 4000000 in
set_option maxRecDepth 100000 in
theorem k_X2_passOne_131 {p : Program} {l : Launch} {e : Env} {s : State} {m : MethodId} {args : Array Value} {below : List Frame} {meth : Method} {c : Code} {dd : cl_D} {b : Nat} (C : cl_C p l s m args meth c cX2_passOne RX2 8 (some .int) dd b) {r55 : cl_M → Nat → Int32 → Int32 → Int32 → Int32 → Int32 → Int32 → Option (Int32 × cl_M)} (hr55 : ∀ (M : cl_M) (t0 : Nat) (a1 : Int32) (a2 : Int32) (a3 : Int32) (a4 : Int32) (a5 : Int32) (a6 : Int32) (r : Int32) (M' : cl_M), r55 M t0 a1 a2 a3 a4 a5 a6 = some (r, M') → ∀ (H : Heap) (locs : List Loc) (ls : Array Slot), cl_sh dd t0 = 2 → cl_H dd b M s H locs → lv_has ls 8 [(0, .ref (b + t0)), (1, .int a1), (2, .int a2), (3, .int a3), (4, .int a4), (5, .int a5), (6, .int a6)] → W p l e { frames := 2, cells := 0, slots := 0, locals := 46 } s m args below meth c H locs 0 0 (cl_Zi below args s dd b r M') (F0 m 55 ls [])) : ∀ (M : cl_M) (t0 : Nat) (a1 : Int32) (a2 : Int32) (a3 : Int32) (a4 : Int32) (a5 : Int32) (a6 : Int32) (r : Int32) (M' : cl_M), f_X2_passOne_131 r55 M t0 a1 a2 a3 a4 a5 a6 = some (r, M') → ∀ (H : Heap) (locs : List Loc) (ls : Array Slot), cl_sh dd t0 = 2 → cl_H dd b M s H locs → lv_has ls 8 [(0, .ref (b + t0)), (1, .int a1), (2, .int a2), (3, .int a3), (4, .int a4), (5, .int a5), (6, .int a6)] → W p l e { frames := 2, cells := 0, slots := 0, locals := 46 } s m args below meth c H locs 0 0 (cl_Zi below args s dd b r M') (F0 m 131 ls []) := by
  have hx := C.1
  have hb := C.2.1
  have hlt := C.2.2.2.2.2.2.2.2.2.2
  have hRr := C.2.2.2.2.2.2.2.2.2.1
  intro M t0 a1 a2 a3 a4 a5 a6 r M' hf H locs ls ht0 hw hl
  unfold f_X2_passOne_131 at hf
  obtain ⟨v14, ev14, hf⟩ := cl_let_e hf
  refine lv_iinc (v := v14) (lv' := [(6, .int v14), (0, .ref (b + t0)), (1, .int a1), (2, .int a2), (3, .int a3), (4, .int a4), (5, .int a5)]) hx hb dX2_passOne_131 hl (k := 6) rfl (by rw [ev14]; rfl) (by decide) rfl (fun ls hl => ?_)
  refine lv_goto (tgt := 55) hx hb dX2_passOne_134 (by decide) ?_
  exact hr55 M t0 a1 a2 a3 a4 a5 v14 _ _ hf _ _ _ ht0 hw (lv_sub hl [1, 2, 3, 4, 5, 6, 0] rfl)
def f_X2_passOne_102 (r55 : cl_M → Nat → Int32 → Int32 → Int32 → Int32 → Int32 → Int32 → Option (Int32 × cl_M)) (M : cl_M) (t0 : Nat) (a1 : Int32) (a2 : Int32) (a3 : Int32) (a4 : Int32) (a5 : Int32) (a6 : Int32) (t7 : Nat) : Option (Int32 × cl_M) := (f_X0_takeSmell M t7 a4 a2).bind (fun M18 => (f_X0_weight M18 t7).bind (fun v20 => (f_X0_hold M18 t7).bind (fun v22 => if v20 ≤ v22 then f_X2_passOne_131 r55 M18 t0 a1 a2 a3 a4 a5 a6 else (f_X0_fall M18 t7).bind (fun M25 => cl_let (a5 + 1) (fun v27 => f_X2_passOne_131 r55 M25 t0 a1 a2 a3 a4 v27 a6)))))
set_option maxHeartbeats 4000000 in
set_option maxRecDepth 100000 in
theorem k_X2_passOne_102 {p : Program} {l : Launch} {e : Env} {s : State} {m : MethodId} {args : Array Value} {below : List Frame} {meth : Method} {c : Code} {dd : cl_D} {b : Nat} (C : cl_C p l s m args meth c cX2_passOne RX2 8 (some .int) dd b) {r55 : cl_M → Nat → Int32 → Int32 → Int32 → Int32 → Int32 → Int32 → Option (Int32 × cl_M)} (hr55 : ∀ (M : cl_M) (t0 : Nat) (a1 : Int32) (a2 : Int32) (a3 : Int32) (a4 : Int32) (a5 : Int32) (a6 : Int32) (r : Int32) (M' : cl_M), r55 M t0 a1 a2 a3 a4 a5 a6 = some (r, M') → ∀ (H : Heap) (locs : List Loc) (ls : Array Slot), cl_sh dd t0 = 2 → cl_H dd b M s H locs → lv_has ls 8 [(0, .ref (b + t0)), (1, .int a1), (2, .int a2), (3, .int a3), (4, .int a4), (5, .int a5), (6, .int a6)] → W p l e { frames := 2, cells := 0, slots := 0, locals := 46 } s m args below meth c H locs 0 0 (cl_Zi below args s dd b r M') (F0 m 55 ls [])) : ∀ (M : cl_M) (t0 : Nat) (a1 : Int32) (a2 : Int32) (a3 : Int32) (a4 : Int32) (a5 : Int32) (a6 : Int32) (t7 : Nat) (r : Int32) (M' : cl_M), f_X2_passOne_102 r55 M t0 a1 a2 a3 a4 a5 a6 t7 = some (r, M') → ∀ (H : Heap) (locs : List Loc) (ls : Array Slot), cl_sh dd t0 = 2 → cl_sh dd t7 = 0 → cl_H dd b M s H locs → lv_has ls 8 [(0, .ref (b + t0)), (1, .int a1), (2, .int a2), (3, .int a3), (4, .int a4), (5, .int a5), (6, .int a6), (7, .ref (b + t7))] → W p l e { frames := 2, cells := 0, slots := 0, locals := 46 } s m args below meth c H locs 0 0 (cl_Zi below args s dd b r M') (F0 m 102 ls []) := by
  have hx := C.1
  have hb := C.2.1
  have hlt := C.2.2.2.2.2.2.2.2.2.2
  have hRr := C.2.2.2.2.2.2.2.2.2.1
  intro M t0 a1 a2 a3 a4 a5 a6 t7 r M' hf H locs ls ht0 ht7 hw hl
  unfold f_X2_passOne_102 at hf
  refine lv_aload hx hb dX2_passOne_102 (lv_at hl 7 rfl) ?_
  refine lv_iload hx hb dX2_passOne_104 (lv_at hl 4 rfl) ?_
  refine lv_iload_n hx hb dX2_passOne_106 rfl (lv_at hl 2 rfl) ?_
  obtain ⟨M18, e19, hf⟩ := cl_bind_e hf
  refine cr_Vv C hw (c_X0_takeSmell hlt ht7 e19) cy_X0_takeSmell vy_X0_takeSmell ml_X2_116 (cl_lt ht7 (by decide)) (cl_e0 ht7) rfl rfl (As := [.int a4, .int a2]) rfl hl.1 rfl ⟨⟨Nat.le_of_ble_eq_true rfl, Nat.le_of_ble_eq_true rfl⟩, Nat.le_of_ble_eq_true rfl, Nat.le_of_ble_eq_true rfl, Nat.le_of_ble_eq_true rfl⟩ dX2_passOne_107 (fun H locs hw => ?_)
  refine lv_aload hx hb dX2_passOne_110 (lv_at hl 7 rfl) ?_
  obtain ⟨v20, e21, hf⟩ := cl_bind_e hf
  refine cr_Vi C hw (c_X0_weight hlt ht7 e21) cy_X0_weight vy_X0_weight ml_X2_88 (cl_lt ht7 (by decide)) (cl_e0 ht7) rfl rfl (As := []) rfl hl.1 rfl ⟨⟨Nat.le_of_ble_eq_true rfl, Nat.le_of_ble_eq_true rfl⟩, Nat.le_of_ble_eq_true rfl, Nat.le_of_ble_eq_true rfl, Nat.le_of_ble_eq_true rfl⟩ dX2_passOne_112 (fun H locs hw => ?_)
  refine lv_aload hx hb dX2_passOne_115 (lv_at hl 7 rfl) ?_
  obtain ⟨v22, e23, hf⟩ := cl_bind_e hf
  refine cr_Vi C hw (c_X0_hold hlt ht7 e23) cy_X0_hold vy_X0_hold ml_X2_119 (cl_lt ht7 (by decide)) (cl_e0 ht7) rfl rfl (As := []) rfl hl.1 rfl ⟨⟨Nat.le_of_ble_eq_true rfl, Nat.le_of_ble_eq_true rfl⟩, Nat.le_of_ble_eq_true rfl, Nat.le_of_ble_eq_true rfl, Nat.le_of_ble_eq_true rfl⟩ dX2_passOne_117 (fun H locs hw => ?_)
  refine lv_icmp_le (tgt := 131) hx hb dX2_passOne_120 (by decide) (fun c24 => ?_) (fun c24 => ?_)
  · have hf := cl_yes c24 hf
    exact k_X2_passOne_131 C hr55 M18 t0 a1 a2 a3 a4 a5 a6 _ _ hf _ _ _ ht0 hw (lv_sub hl [0, 1, 2, 3, 4, 5, 6] rfl)
  · have hf := cl_no c24 hf
    refine lv_aload hx hb dX2_passOne_123 (lv_at hl 7 rfl) ?_
    obtain ⟨M25, e26, hf⟩ := cl_bind_e hf
    refine cr_Vv C hw (c_X0_fall hlt ht7 e26) cy_X0_fall vy_X0_fall ml_X2_122 (cl_lt ht7 (by decide)) (cl_e0 ht7) rfl rfl (As := []) rfl hl.1 rfl ⟨⟨Nat.le_of_ble_eq_true rfl, Nat.le_of_ble_eq_true rfl⟩, Nat.le_of_ble_eq_true rfl, Nat.le_of_ble_eq_true rfl, Nat.le_of_ble_eq_true rfl⟩ dX2_passOne_125 (fun H locs hw => ?_)
    obtain ⟨v27, ev27, hf⟩ := cl_let_e hf
    refine lv_iinc (v := v27) (lv' := [(5, .int v27), (0, .ref (b + t0)), (1, .int a1), (2, .int a2), (3, .int a3), (4, .int a4), (6, .int a6), (7, .ref (b + t7))]) hx hb dX2_passOne_128 hl (k := 5) rfl (by rw [ev27]; rfl) (by decide) rfl (fun ls hl => ?_)
    exact k_X2_passOne_131 C hr55 M25 t0 a1 a2 a3 a4 v27 a6 _ _ hf _ _ _ ht0 hw (lv_sub hl [1, 2, 3, 4, 5, 0, 6] rfl)
def f_X2_passOne_55 : Nat → cl_M → Nat → Int32 → Int32 → Int32 → Int32 → Int32 → Int32 → Option (Int32 × cl_M)
  | 0, _, _, _, _, _, _, _, _ => none
  | k + 1, M, t0, a1, a2, a3, a4, a5, a6 => if (M t0 3) ≤ a6 then cl_let (cl_ms M t0 2 ((M t0 2) + 1)) (fun M10 => some (a5, M10)) else if cl_inb a6 10 = true then cl_let ((t0 + 8) + 1 + (a6).toNatClampNeg) (fun g12 => if (M g12 6) = 1 then if a1 ≤ 0 then (f_X0_getDry M g12 a3 a2).bind (fun M16 => f_X2_passOne_102 (f_X2_passOne_55 k) M16 t0 a1 a2 a3 a4 a5 a6 g12) else (f_X0_getWet M g12 a1).bind (fun M28 => f_X2_passOne_102 (f_X2_passOne_55 k) M28 t0 a1 a2 a3 a4 a5 a6 g12) else f_X2_passOne_131 (f_X2_passOne_55 k) M t0 a1 a2 a3 a4 a5 a6) else none
set_option maxHeartbeats 4000000 in
set_option maxRecDepth 100000 in
theorem k_X2_passOne_55 {p : Program} {l : Launch} {e : Env} {s : State} {m : MethodId} {args : Array Value} {below : List Frame} {meth : Method} {c : Code} {dd : cl_D} {b : Nat} (C : cl_C p l s m args meth c cX2_passOne RX2 8 (some .int) dd b) : ∀ (k : Nat), ∀ (M : cl_M) (t0 : Nat) (a1 : Int32) (a2 : Int32) (a3 : Int32) (a4 : Int32) (a5 : Int32) (a6 : Int32) (r : Int32) (M' : cl_M), f_X2_passOne_55 k M t0 a1 a2 a3 a4 a5 a6 = some (r, M') → ∀ (H : Heap) (locs : List Loc) (ls : Array Slot), cl_sh dd t0 = 2 → cl_H dd b M s H locs → lv_has ls 8 [(0, .ref (b + t0)), (1, .int a1), (2, .int a2), (3, .int a3), (4, .int a4), (5, .int a5), (6, .int a6)] → W p l e { frames := 2, cells := 0, slots := 0, locals := 46 } s m args below meth c H locs 0 0 (cl_Zi below args s dd b r M') (F0 m 55 ls []) := by
  have hx := C.1
  have hb := C.2.1
  have hlt := C.2.2.2.2.2.2.2.2.2.2
  have hRr := C.2.2.2.2.2.2.2.2.2.1
  intro k
  induction k with
  | zero =>
    intro M t0 a1 a2 a3 a4 a5 a6 r M' hf H locs ls ht0 hw hl
    rw [f_X2_passOne_55] at hf
    cases hf
  | succ k ih =>
    intro M t0 a1 a2 a3 a4 a5 a6 r M' hf H locs ls ht0 hw hl
    rw [f_X2_passOne_55] at hf
    refine lv_iload hx hb dX2_passOne_55 (lv_at hl 6 rfl) ?_
    refine lv_aload_n hx hb dX2_passOne_57 rfl (lv_at hl 0 rfl) ?_
    refine fg_X2_35 C hw ht0 dX2_passOne_58 ?_
    refine lv_icmp_ge (tgt := 137) hx hb dX2_passOne_61 (by decide) (fun c9 => ?_) (fun c9 => ?_)
    · have hf := cl_yes c9 hf
      refine lv_aload_n hx hb dX2_passOne_137 rfl (lv_at hl 0 rfl) ?_
      refine lv_dup hx hb dX2_passOne_138 rfl ?_
      refine fg_X2_32 C hw ht0 dX2_passOne_139 ?_
      refine lv_iconst (v := 1) hx hb dX2_passOne_142 (by decide) ?_
      refine lv_iadd hx hb dX2_passOne_143 ?_
      obtain ⟨M10, eM10, hf⟩ := cl_let_e hf
      refine fp_X2_32 C hw ht0 eM10 dX2_passOne_144 (fun H locs hw => ?_)
      refine lv_iload hx hb dX2_passOne_147 (lv_at hl 5 rfl) ?_
      obtain ⟨rfl, rfl⟩ := cl_pair hf
      exact cr_reti C hw dX2_passOne_149
    · have hf := cl_no c9 hf
      refine lv_aload_n hx hb dX2_passOne_64 rfl (lv_at hl 0 rfl) ?_
      refine fg_X2_20 C hw ht0 dX2_passOne_65 ?_
      refine lv_iload hx hb dX2_passOne_68 (lv_at hl 6 rfl) ?_
      obtain ⟨q11, hf⟩ := cl_grd hf
      refine cr_ald9 C hw (sh_2_5 ht0).1 q11 (k := (a6).toNatClampNeg) rfl dX2_passOne_70 ?_
      obtain ⟨g12, eg12, hf⟩ := cl_let_e hf
      refine cr_topr eg12 ?_
      have hg12 : cl_sh dd g12 = 0 := by rw [eg12]; exact (sh_el_9 (sh_2_5 ht0).1 (cl_inb_lt q11))
      refine lv_astore (lv' := [(7, .ref (b + g12)), (0, .ref (b + t0)), (1, .int a1), (2, .int a2), (3, .int a3), (4, .int a4), (5, .int a5), (6, .int a6)]) hx hb dX2_passOne_71 hl (by decide) rfl (fun ls hl => ?_)
      refine lv_aload hx hb dX2_passOne_73 (lv_at hl 0 rfl) ?_
      refine fg_X2_68 C hw hg12 dX2_passOne_75 ?_
      refine lv_iconst (v := 1) hx hb dX2_passOne_78 (by decide) ?_
      refine lv_icmp_ne (tgt := 131) hx hb dX2_passOne_79 (by decide) (fun c13 => ?_) (fun c13 => ?_)
      · have hf := cl_no c13 hf
        exact k_X2_passOne_131 C ih M t0 a1 a2 a3 a4 a5 a6 _ _ hf _ _ _ ht0 hw (lv_sub hl [1, 2, 3, 4, 5, 6, 7] rfl)
      · have hf := cl_yes c13 hf
        refine lv_iload_n hx hb dX2_passOne_82 rfl (lv_at hl 2 rfl) ?_
        refine lv_if_le (tgt := 95) hx hb dX2_passOne_83 (by decide) (fun c15 => ?_) (fun c15 => ?_)
        · have hf := cl_yes c15 hf
          refine lv_aload hx hb dX2_passOne_95 (lv_at hl 0 rfl) ?_
          refine lv_iload_n hx hb dX2_passOne_97 rfl (lv_at hl 4 rfl) ?_
          refine lv_iload_n hx hb dX2_passOne_98 rfl (lv_at hl 3 rfl) ?_
          obtain ⟨M16, e17, hf⟩ := cl_bind_e hf
          refine cr_Vv C hw (c_X0_getDry hlt hg12 e17) cy_X0_getDry vy_X0_getDry ml_X2_112 (cl_lt hg12 (by decide)) (cl_e0 hg12) rfl rfl (As := [.int a3, .int a2]) rfl hl.1 rfl ⟨⟨Nat.le_of_ble_eq_true rfl, Nat.le_of_ble_eq_true rfl⟩, Nat.le_of_ble_eq_true rfl, Nat.le_of_ble_eq_true rfl, Nat.le_of_ble_eq_true rfl⟩ dX2_passOne_99 (fun H locs hw => ?_)
          exact k_X2_passOne_102 C ih M16 t0 a1 a2 a3 a4 a5 a6 g12 _ _ hf _ _ _ ht0 hg12 hw (lv_sub hl [1, 2, 3, 4, 5, 6, 7, 0] rfl)
        · have hf := cl_no c15 hf
          refine lv_aload hx hb dX2_passOne_86 (lv_at hl 0 rfl) ?_
          refine lv_iload_n hx hb dX2_passOne_88 rfl (lv_at hl 2 rfl) ?_
          obtain ⟨M28, e29, hf⟩ := cl_bind_e hf
          refine cr_Vv C hw (c_X0_getWet hlt hg12 e29) cy_X0_getWet vy_X0_getWet ml_X2_109 (cl_lt hg12 (by decide)) (cl_e0 hg12) rfl rfl (As := [.int a1]) rfl hl.1 rfl ⟨⟨Nat.le_of_ble_eq_true rfl, Nat.le_of_ble_eq_true rfl⟩, Nat.le_of_ble_eq_true rfl, Nat.le_of_ble_eq_true rfl, Nat.le_of_ble_eq_true rfl⟩ dX2_passOne_89 (fun H locs hw => ?_)
          refine lv_goto (tgt := 102) hx hb dX2_passOne_92 (by decide) ?_
          exact k_X2_passOne_102 C ih M28 t0 a1 a2 a3 a4 a5 a6 g12 _ _ hf _ _ _ ht0 hg12 hw (lv_sub hl [1, 2, 3, 4, 5, 6, 7, 0] rfl)
def f_X2_passOne (M : cl_M) (t0 : Nat) : Option (Int32 × cl_M) := (f_X4_rainAt M (t0 + 1) (M t0 2)).bind (fun v1 => (f_X4_windAt M (t0 + 1) (M t0 2)).bind (fun v3 => (f_X4_sunnyAt M (t0 + 1) (M t0 2)).bind (fun v5 => (f_X4_smokyAt M (t0 + 1) (M t0 2)).bind (fun v7 => f_X2_passOne_55 cl_F M t0 v1 v3 v5 v7 0 0))))
set_option maxHeartbeats 4000000 in
set_option maxRecDepth 100000 in
theorem k_X2_passOne {p : Program} {l : Launch} {e : Env} {s : State} {m : MethodId} {args : Array Value} {below : List Frame} {meth : Method} {c : Code} {dd : cl_D} {b : Nat} (C : cl_C p l s m args meth c cX2_passOne RX2 8 (some .int) dd b) : ∀ (M : cl_M) (t0 : Nat) (r : Int32) (M' : cl_M), f_X2_passOne M t0 = some (r, M') → ∀ (H : Heap) (locs : List Loc) (ls : Array Slot), cl_sh dd t0 = 2 → cl_H dd b M s H locs → lv_has ls 8 [(0, .ref (b + t0))] → W p l e { frames := 2, cells := 0, slots := 0, locals := 46 } s m args below meth c H locs 0 0 (cl_Zi below args s dd b r M') (F0 m 0 ls []) := by
  have hx := C.1
  have hb := C.2.1
  have hlt := C.2.2.2.2.2.2.2.2.2.2
  have hRr := C.2.2.2.2.2.2.2.2.2.1
  intro M t0 r M' hf H locs ls ht0 hw hl
  unfold f_X2_passOne at hf
  refine lv_aload_n hx hb dX2_passOne_0 rfl (lv_at hl 0 rfl) ?_
  refine fg_X2_12 C hw ht0 dX2_passOne_1 ?_
  refine lv_aload_n hx hb dX2_passOne_4 rfl (lv_at hl 0 rfl) ?_
  refine fg_X2_32 C hw ht0 dX2_passOne_5 ?_
  obtain ⟨v1, e2, hf⟩ := cl_bind_e hf
  refine cr_Vi C hw (c_X4_rainAt hlt (sh_2_4 ht0).1 e2) cy_X4_rainAt vy_X4_rainAt ml_X2_97 (cl_lt (sh_2_4 ht0).1 (by decide)) (cl_e4 (sh_2_4 ht0).1) rfl rfl (As := [.int (M t0 2)]) rfl hl.1 rfl ⟨⟨Nat.le_of_ble_eq_true rfl, Nat.le_of_ble_eq_true rfl⟩, Nat.le_of_ble_eq_true rfl, Nat.le_of_ble_eq_true rfl, Nat.le_of_ble_eq_true rfl⟩ dX2_passOne_8 (fun H locs hw => ?_)
  refine lv_istore_n (lv' := [(1, .int v1), (0, .ref (b + t0))]) hx hb dX2_passOne_11 rfl hl (by decide) rfl (fun ls hl => ?_)
  refine lv_aload_n hx hb dX2_passOne_12 rfl (lv_at hl 1 rfl) ?_
  refine fg_X2_12 C hw ht0 dX2_passOne_13 ?_
  refine lv_aload_n hx hb dX2_passOne_16 rfl (lv_at hl 1 rfl) ?_
  refine fg_X2_32 C hw ht0 dX2_passOne_17 ?_
  obtain ⟨v3, e4, hf⟩ := cl_bind_e hf
  refine cr_Vi C hw (c_X4_windAt hlt (sh_2_4 ht0).1 e4) cy_X4_windAt vy_X4_windAt ml_X2_100 (cl_lt (sh_2_4 ht0).1 (by decide)) (cl_e4 (sh_2_4 ht0).1) rfl rfl (As := [.int (M t0 2)]) rfl hl.1 rfl ⟨⟨Nat.le_of_ble_eq_true rfl, Nat.le_of_ble_eq_true rfl⟩, Nat.le_of_ble_eq_true rfl, Nat.le_of_ble_eq_true rfl, Nat.le_of_ble_eq_true rfl⟩ dX2_passOne_20 (fun H locs hw => ?_)
  refine lv_istore_n (lv' := [(2, .int v3), (1, .int v1), (0, .ref (b + t0))]) hx hb dX2_passOne_23 rfl hl (by decide) rfl (fun ls hl => ?_)
  refine lv_aload_n hx hb dX2_passOne_24 rfl (lv_at hl 2 rfl) ?_
  refine fg_X2_12 C hw ht0 dX2_passOne_25 ?_
  refine lv_aload_n hx hb dX2_passOne_28 rfl (lv_at hl 2 rfl) ?_
  refine fg_X2_32 C hw ht0 dX2_passOne_29 ?_
  obtain ⟨v5, e6, hf⟩ := cl_bind_e hf
  refine cr_Vi C hw (c_X4_sunnyAt hlt (sh_2_4 ht0).1 e6) cy_X4_sunnyAt vy_X4_sunnyAt ml_X2_103 (cl_lt (sh_2_4 ht0).1 (by decide)) (cl_e4 (sh_2_4 ht0).1) rfl rfl (As := [.int (M t0 2)]) rfl hl.1 rfl ⟨⟨Nat.le_of_ble_eq_true rfl, Nat.le_of_ble_eq_true rfl⟩, Nat.le_of_ble_eq_true rfl, Nat.le_of_ble_eq_true rfl, Nat.le_of_ble_eq_true rfl⟩ dX2_passOne_32 (fun H locs hw => ?_)
  refine lv_istore_n (lv' := [(3, .int v5), (2, .int v3), (1, .int v1), (0, .ref (b + t0))]) hx hb dX2_passOne_35 rfl hl (by decide) rfl (fun ls hl => ?_)
  refine lv_aload_n hx hb dX2_passOne_36 rfl (lv_at hl 3 rfl) ?_
  refine fg_X2_12 C hw ht0 dX2_passOne_37 ?_
  refine lv_aload_n hx hb dX2_passOne_40 rfl (lv_at hl 3 rfl) ?_
  refine fg_X2_32 C hw ht0 dX2_passOne_41 ?_
  obtain ⟨v7, e8, hf⟩ := cl_bind_e hf
  refine cr_Vi C hw (c_X4_smokyAt hlt (sh_2_4 ht0).1 e8) cy_X4_smokyAt vy_X4_smokyAt ml_X2_106 (cl_lt (sh_2_4 ht0).1 (by decide)) (cl_e4 (sh_2_4 ht0).1) rfl rfl (As := [.int (M t0 2)]) rfl hl.1 rfl ⟨⟨Nat.le_of_ble_eq_true rfl, Nat.le_of_ble_eq_true rfl⟩, Nat.le_of_ble_eq_true rfl, Nat.le_of_ble_eq_true rfl, Nat.le_of_ble_eq_true rfl⟩ dX2_passOne_44 (fun H locs hw => ?_)
  refine lv_istore (lv' := [(4, .int v7), (3, .int v5), (2, .int v3), (1, .int v1), (0, .ref (b + t0))]) hx hb dX2_passOne_47 hl (by decide) rfl (fun ls hl => ?_)
  refine lv_iconst (v := 0) hx hb dX2_passOne_49 (by decide) ?_
  refine lv_istore (lv' := [(5, .int 0), (4, .int v7), (3, .int v5), (2, .int v3), (1, .int v1), (0, .ref (b + t0))]) hx hb dX2_passOne_50 hl (by decide) rfl (fun ls hl => ?_)
  refine lv_iconst (v := 0) hx hb dX2_passOne_52 (by decide) ?_
  refine lv_istore (lv' := [(6, .int 0), (5, .int 0), (4, .int v7), (3, .int v5), (2, .int v3), (1, .int v1), (0, .ref (b + t0))]) hx hb dX2_passOne_53 hl (by decide) rfl (fun ls hl => ?_)
  exact k_X2_passOne_55 C cl_F M t0 v1 v3 v5 v7 0 0 _ _ hf _ _ _ ht0 hw (lv_sub hl [6, 5, 4, 3, 2, 1, 0] rfl)
set_option maxRecDepth 100000 in
theorem c_X2_passOne {l : Launch} {dd : cl_D} {b : Nat} (hlt : l.stackTraces = false) {M : cl_M} {t0 : Nat}  {r : Int32} {M' : cl_M} (ht0 : cl_sh dd t0 = 2) (h : f_X2_passOne M t0 = some (r, M')) : cl_Mi l dd b yX2_passOne cX2_passOne 8 (some .int) 2 46 [.ref (b + t0)] M r M' :=
  cl_of hlt (by decide) (Nat.le_of_ble_eq_true rfl) (fun p e s m below meth c ls C hw hl => k_X2_passOne C M t0 r M' h _ _ _ ht0 hw (lv_sub hl [0] rfl))
theorem cy_X2_passOne : cl_cy yX2_passOne cX2_passOne 8 (some .int) 0 := ⟨in_ClothesLine_Line, cd_X2_passOne, by decide +kernel, by decide +kernel, by decide +kernel⟩
theorem vy_X2_passOne : cl_vy yX2_passOne := ⟨im_X2_passOne, se_X2_passOne⟩
def f_X2_letPass_4 : Nat → cl_M → Nat → Int32 → Int32 → Int32 → Option (Int32 × cl_M)
  | 0, _, _, _, _, _ => none
  | k + 1, M, t0, a1, a2, a3 => if a1 ≤ a3 then some (a2, M) else cl_b2 (f_X2_passOne M t0) (fun v2 M3 => cl_let (a2 + v2) (fun v5 => cl_let (a3 + 1) (fun v6 => f_X2_letPass_4 k M3 t0 a1 v5 v6)))
set_option maxHeartbeats 4000000 in
set_option maxRecDepth 100000 in
theorem k_X2_letPass_4 {p : Program} {l : Launch} {e : Env} {s : State} {m : MethodId} {args : Array Value} {below : List Frame} {meth : Method} {c : Code} {dd : cl_D} {b : Nat} (C : cl_C p l s m args meth c cX2_letPass RX2 4 (some .int) dd b) : ∀ (k : Nat), ∀ (M : cl_M) (t0 : Nat) (a1 : Int32) (a2 : Int32) (a3 : Int32) (r : Int32) (M' : cl_M), f_X2_letPass_4 k M t0 a1 a2 a3 = some (r, M') → ∀ (H : Heap) (locs : List Loc) (ls : Array Slot), cl_sh dd t0 = 2 → cl_H dd b M s H locs → lv_has ls 4 [(0, .ref (b + t0)), (1, .int a1), (2, .int a2), (3, .int a3)] → W p l e { frames := 3, cells := 0, slots := 0, locals := 73 } s m args below meth c H locs 0 0 (cl_Zi below args s dd b r M') (F0 m 4 ls []) := by
  have hx := C.1
  have hb := C.2.1
  have hlt := C.2.2.2.2.2.2.2.2.2.2
  have hRr := C.2.2.2.2.2.2.2.2.2.1
  intro k
  induction k with
  | zero =>
    intro M t0 a1 a2 a3 r M' hf H locs ls ht0 hw hl
    rw [f_X2_letPass_4] at hf
    cases hf
  | succ k ih =>
    intro M t0 a1 a2 a3 r M' hf H locs ls ht0 hw hl
    rw [f_X2_letPass_4] at hf
    refine lv_iload_n hx hb dX2_letPass_4 rfl (lv_at hl 3 rfl) ?_
    refine lv_iload_n hx hb dX2_letPass_5 rfl (lv_at hl 1 rfl) ?_
    refine lv_icmp_ge (tgt := 22) hx hb dX2_letPass_6 (by decide) (fun c1 => ?_) (fun c1 => ?_)
    · have hf := cl_yes c1 hf
      refine lv_iload_n hx hb dX2_letPass_22 rfl (lv_at hl 2 rfl) ?_
      obtain ⟨rfl, rfl⟩ := cl_pair hf
      exact cr_reti C hw dX2_letPass_23
    · have hf := cl_no c1 hf
      refine lv_iload_n hx hb dX2_letPass_9 rfl (lv_at hl 2 rfl) ?_
      refine lv_aload_n hx hb dX2_letPass_10 rfl (lv_at hl 0 rfl) ?_
      obtain ⟨v2, M3, e4, hf⟩ := cl_b2_e hf
      refine cr_Vi C hw (c_X2_passOne hlt ht0 e4) cy_X2_passOne vy_X2_passOne ml_X2_94 (cl_lt ht0 (by decide)) (cl_e2 ht0) rfl rfl (As := []) rfl hl.1 rfl ⟨⟨Nat.le_of_ble_eq_true rfl, Nat.le_of_ble_eq_true rfl⟩, Nat.le_of_ble_eq_true rfl, Nat.le_of_ble_eq_true rfl, Nat.le_of_ble_eq_true rfl⟩ dX2_letPass_11 (fun H locs hw => ?_)
      refine lv_iadd hx hb dX2_letPass_14 ?_
      obtain ⟨v5, ev5, hf⟩ := cl_let_e hf
      refine cr_top ev5 ?_
      refine lv_istore_n (lv' := [(2, .int v5), (0, .ref (b + t0)), (1, .int a1), (3, .int a3)]) hx hb dX2_letPass_15 rfl hl (by decide) rfl (fun ls hl => ?_)
      obtain ⟨v6, ev6, hf⟩ := cl_let_e hf
      refine lv_iinc (v := v6) (lv' := [(3, .int v6), (2, .int v5), (0, .ref (b + t0)), (1, .int a1)]) hx hb dX2_letPass_16 hl (k := 3) rfl (by rw [ev6]; rfl) (by decide) rfl (fun ls hl => ?_)
      refine lv_goto (tgt := 4) hx hb dX2_letPass_19 (by decide) ?_
      exact ih M3 t0 a1 v5 v6 _ _ hf _ _ _ ht0 hw (lv_sub hl [2, 3, 1, 0] rfl)
def f_X2_letPass (M : cl_M) (t0 : Nat) (a1 : Int32) : Option (Int32 × cl_M) := f_X2_letPass_4 cl_F M t0 a1 0 0
set_option maxHeartbeats 4000000 in
set_option maxRecDepth 100000 in
theorem k_X2_letPass {p : Program} {l : Launch} {e : Env} {s : State} {m : MethodId} {args : Array Value} {below : List Frame} {meth : Method} {c : Code} {dd : cl_D} {b : Nat} (C : cl_C p l s m args meth c cX2_letPass RX2 4 (some .int) dd b) : ∀ (M : cl_M) (t0 : Nat) (a1 : Int32) (r : Int32) (M' : cl_M), f_X2_letPass M t0 a1 = some (r, M') → ∀ (H : Heap) (locs : List Loc) (ls : Array Slot), cl_sh dd t0 = 2 → cl_H dd b M s H locs → lv_has ls 4 [(0, .ref (b + t0)), (1, .int a1)] → W p l e { frames := 3, cells := 0, slots := 0, locals := 73 } s m args below meth c H locs 0 0 (cl_Zi below args s dd b r M') (F0 m 0 ls []) := by
  have hx := C.1
  have hb := C.2.1
  have hlt := C.2.2.2.2.2.2.2.2.2.2
  have hRr := C.2.2.2.2.2.2.2.2.2.1
  intro M t0 a1 r M' hf H locs ls ht0 hw hl
  unfold f_X2_letPass at hf
  refine lv_iconst (v := 0) hx hb dX2_letPass_0 (by decide) ?_
  refine lv_istore_n (lv' := [(2, .int 0), (0, .ref (b + t0)), (1, .int a1)]) hx hb dX2_letPass_1 rfl hl (by decide) rfl (fun ls hl => ?_)
  refine lv_iconst (v := 0) hx hb dX2_letPass_2 (by decide) ?_
  refine lv_istore_n (lv' := [(3, .int 0), (2, .int 0), (0, .ref (b + t0)), (1, .int a1)]) hx hb dX2_letPass_3 rfl hl (by decide) rfl (fun ls hl => ?_)
  exact k_X2_letPass_4 C cl_F M t0 a1 0 0 _ _ hf _ _ _ ht0 hw (lv_sub hl [2, 3, 1, 0] rfl)
set_option maxRecDepth 100000 in
theorem c_X2_letPass {l : Launch} {dd : cl_D} {b : Nat} (hlt : l.stackTraces = false) {M : cl_M} {t0 : Nat} {a1 : Int32}  {r : Int32} {M' : cl_M} (ht0 : cl_sh dd t0 = 2) (h : f_X2_letPass M t0 a1 = some (r, M')) : cl_Mi l dd b yX2_letPass cX2_letPass 4 (some .int) 3 73 [.ref (b + t0), .int a1] M r M' :=
  cl_of hlt (by decide) (Nat.le_of_ble_eq_true rfl) (fun p e s m below meth c ls C hw hl => k_X2_letPass C M t0 a1 r M' h _ _ _ ht0 hw (lv_sub hl [0, 1] rfl))
theorem cy_X2_letPass : cl_cy yX2_letPass cX2_letPass 4 (some .int) 1 := ⟨in_ClothesLine_Line, cd_X2_letPass, by decide +kernel, by decide +kernel, by decide +kernel⟩
theorem vy_X2_letPass : cl_vy yX2_letPass := ⟨im_X2_letPass, se_X2_letPass⟩
